/-! loads in the reference: all sets -/
section
variable {sc : Nat × (Nat → Int32)} {D : Nat} {J L : Nat → Int → Int} {W : nw_W} {c sl : Nat} {Qr : nw_QR} {Qx : nw_QX} {g : Int → Int} {B : Int}
theorem sp_pref {x y : Int} (hx : 0 ≤ x ∧ x < 1024) (hy : 0 ≤ y ∧ y < 1024) : (0 ≤ nw_xixor x y ∧ nw_xixor x y < 1024) ∧ (nw_xiand (nw_xiand x (nw_xixor x y)) (-(nw_xixor x y)) = 0 ↔ ¬ sp_lx 10 (sp_S x) (sp_S y)) := by
  obtain ⟨m, rfl⟩ : ∃ m : Nat, x = m := ⟨x.toNat, by omega⟩
  obtain ⟨k, rfl⟩ : ∃ k : Nat, y = k := ⟨y.toNat, by omega⟩
  have hm : m < 2 ^ 10 := by omega
  have hk : k < 2 ^ 10 := by omega
  have hu : m ^^^ k < 2 ^ 10 := Nat.xor_lt_two_pow hm hk
  have eu : nw_xixor (m : Int) (k : Int) = ((m ^^^ k : Nat) : Int) := by rw [nw_xor ⟨by omega, by omega⟩ ⟨by omega, by omega⟩, Int.toNat_natCast, Int.toNat_natCast]
  rw [eu]
  refine ⟨⟨by omega, by omega⟩, ?_⟩
  have bM : (Int32.ofInt (m : Int)).toBitVec = BitVec.ofNat 32 m := by rw [nw_bv ⟨by omega, by omega⟩, Int.toNat_natCast]
  have bU : (Int32.ofInt ((m ^^^ k : Nat) : Int)).toBitVec = BitVec.ofNat 32 (m ^^^ k) := by rw [nw_bv ⟨by omega, by omega⟩, Int.toNat_natCast]
  have eV : nw_xiand (nw_xiand (m : Int) ((m ^^^ k : Nat) : Int)) (-((m ^^^ k : Nat) : Int)) = (Int32.ofInt (m : Int) &&& Int32.ofInt ((m ^^^ k : Nat) : Int) &&& -Int32.ofInt ((m ^^^ k : Nat) : Int)).toInt := by
    unfold nw_xiand
    rw [Int32.ofInt_toInt, Int32.ofInt_neg]
  have bV : (Int32.ofInt (m : Int) &&& Int32.ofInt ((m ^^^ k : Nat) : Int) &&& -Int32.ofInt ((m ^^^ k : Nat) : Int)).toBitVec = BitVec.ofNat 32 m &&& BitVec.ofNat 32 (m ^^^ k) &&& -BitVec.ofNat 32 (m ^^^ k) := by
    rw [Int32.toBitVec_and, Int32.toBitVec_and, Int32.toBitVec_neg, bM, bU]
  have z1 : (Int32.ofInt (m : Int) &&& Int32.ofInt ((m ^^^ k : Nat) : Int) &&& -Int32.ofInt ((m ^^^ k : Nat) : Int)).toInt = 0 ↔ BitVec.ofNat 32 m &&& BitVec.ofNat 32 (m ^^^ k) &&& -BitVec.ofNat 32 (m ^^^ k) = 0#32 := by
    rw [← bV]
    constructor
    · intro h
      have : Int32.ofInt (m : Int) &&& Int32.ofInt ((m ^^^ k : Nat) : Int) &&& -Int32.ofInt ((m ^^^ k : Nat) : Int) = 0 := Int32.toInt_inj.mp (h.trans rfl)
      rw [this]
      rfl
    · intro h
      have : Int32.ofInt (m : Int) &&& Int32.ofInt ((m ^^^ k : Nat) : Int) &&& -Int32.ofInt ((m ^^^ k : Nat) : Int) = 0 := Int32.toBitVec_inj.mp (h.trans rfl)
      rw [this]
      rfl
  have bt : ∀ i, (BitVec.ofNat 32 m &&& BitVec.ofNat 32 (m ^^^ k) &&& -BitVec.ofNat 32 (m ^^^ k)).getLsbD i = true ↔ i < 32 ∧ (m.testBit i = true ∧ k.testBit i = false ∧ ∀ j, j < i → m.testBit j = k.testBit j) := by
    intro i
    rw [BitVec.getLsbD_and, BitVec.getLsbD_and, BitVec.getLsbD_neg, BitVec.getLsbD_ofNat, BitVec.getLsbD_ofNat, Nat.testBit_xor]
    by_cases hi : i < 32
    · have e : (∃ j, j < i ∧ (BitVec.ofNat 32 (m ^^^ k)).getLsbD j = true) ↔ ¬ ∀ j, j < i → m.testBit j = k.testBit j := by
        constructor
        · rintro ⟨j, j0, j1⟩ h
          rw [BitVec.getLsbD_ofNat, Nat.testBit_xor, h j j0] at j1
          simp at j1
        · intro h
          refine Classical.byContradiction (fun h2 => h (fun j j0 => Classical.byContradiction (fun j1 => h2 ⟨j, j0, ?_⟩)))
          rw [BitVec.getLsbD_ofNat, Nat.testBit_xor]
          have : j < 32 := by omega
          revert j1
          cases m.testBit j <;> cases k.testBit j <;> simp [this]
      by_cases hl : ∀ j, j < i → m.testBit j = k.testBit j
      · have d : decide (∃ j, j < i ∧ (BitVec.ofNat 32 (m ^^^ k)).getLsbD j = true) = false := decide_eq_false (fun z => (e.mp z) hl)
        rw [d]
        have : (∀ j, j < i → m.testBit j = k.testBit j) = True := eq_true hl
        rw [this]
        cases m.testBit i <;> cases k.testBit i <;> simp [hi]
      · have d : decide (∃ j, j < i ∧ (BitVec.ofNat 32 (m ^^^ k)).getLsbD j = true) = true := decide_eq_true (e.mpr hl)
        rw [d]
        have : (∀ j, j < i → m.testBit j = k.testBit j) = False := eq_false hl
        rw [this]
        cases m.testBit i <;> cases k.testBit i <;> simp [hi]
    · simp [hi]
  rw [eV, z1]
  have big : ∀ i, 10 ≤ i → m.testBit i = false := fun i hi => Nat.testBit_lt_two_pow (Nat.lt_of_lt_of_le hm (Nat.pow_le_pow_right (by decide) hi))
  constructor
  · rintro h ⟨y, y0, y1, y2, y3, y4⟩
    have := (bt y.toNat).mpr ⟨by omega, y2.2, ?_, fun j hj => ?_⟩
    · rw [h] at this
      simp at this
    · cases hb : k.testBit y.toNat with
      | false => rfl
      | true => exact absurd ⟨y0, hb⟩ y3
    · have e := y4 (j : Int) (by omega) (by omega)
      unfold sp_S at e
      simp only [Int.toNat_natCast] at e
      cases a : m.testBit j <;> cases b : k.testBit j
      · rfl
      · exact absurd (e.mpr ⟨by omega, b⟩).2 (by rw [a]; decide)
      · exact absurd (e.mp ⟨by omega, a⟩).2 (by rw [b]; decide)
      · rfl
  · intro h
    refine BitVec.eq_of_getLsbD_eq (fun i hi => ?_)
    cases hb : (BitVec.ofNat 32 m &&& BitVec.ofNat 32 (m ^^^ k) &&& -BitVec.ofNat 32 (m ^^^ k)).getLsbD i with
    | false => simp
    | true =>
      obtain ⟨h1, h2, h3, h4⟩ := (bt i).mp hb
      have i10 : i < 10 := Classical.byContradiction (fun z => by rw [big i (by omega)] at h2; cases h2)
      refine absurd ⟨(i : Int), by omega, by omega, ⟨by omega, by rw [Int.toNat_natCast, Int.toNat_natCast]; exact h2⟩, fun z => ?_, fun x x0 x1 => ?_⟩ h
      · have := z.2
        rw [Int.toNat_natCast, Int.toNat_natCast, h3] at this
        cases this
      · have := h4 x.toNat (by omega)
        unfold sp_S
        rw [Int.toNat_natCast, Int.toNat_natCast, this]
theorem t_X12_isPreferred {x y : Int} (hx : 0 ≤ x ∧ x < 1024) (hy : 0 ≤ y ∧ y < 1024) (h1 : sp_lx 10 (sp_S x) (sp_S y) → Qr (some (.inl 1)) (J, L, W)) (h0 : ¬ sp_lx 10 (sp_S x) (sp_S y) → Qr (some (.inl 0)) (J, L, W)) : NW sc d_X12_isPreferred D (0, [some (.inl x), some (.inl y), none], [], (J, L, W), c, sl) Qr Qx := by
  have p := sp_pref hx hy
  refine b_X12_isPreferred_0 ⟨by omega, fun q => h0 (p.2.mp q), fun q => h1 (Classical.byContradiction (fun z => q (p.2.mpr z)))⟩
/-- a sum over the places below ten of a set -/
noncomputable def sp_tot (u : Int → Int) (t : Int) : Int := sp_tl (fun p => sp_if (sp_S t p) (u p)) 10 0
/-- set t is a load of ferry f -/
def sp_fit (g : Int → Int) (f t : Int) : Prop := (∀ p, 0 ≤ p → p < 10 → sp_S t p → sp_can g f p) ∧ sp_tot (sp_wt g) t ≤ g (68 + f) - sp_car g f
theorem t_X12_worth {f t : Int} (hI : Inv (J 304) B) (hw : ∀ k, 0 ≤ k → k < 36 → J 310 k = sp_D (J 304) (k / 6) (k % 6)) (hf : 0 ≤ f ∧ f < J 304 3) (ht : 0 ≤ t ∧ t < 1024) (hD : 1 ≤ D) (h1 : sp_fit (J 304) f t → Qr (some (.inl (sp_tot (sp_fare (J 304)) t))) (J, L, W)) (h0 : ¬ sp_fit (J 304) f t → Qr (some (.inl (-1))) (J, L, W)) : NW sc d_X12_worth D (0, [some (.inr (.inl (some 303))), some (.inl f), some (.inl t), none, none, none], [], (J, L, W), c, sl) Qr Qx := by
  obtain ⟨g, hg⟩ : ∃ g, J 304 = g := ⟨_, rfl⟩
  rw [hg] at hI hw hf h1 h0
  have kf := hI.fe
  have km := hI.mo
  have fi := hI.fer f hf.1 hf.2
  have ca := hI.car f hf.1 hf.2
  have cb := sp_car_bd (f := f) hI
  have bd : ∀ i : Nat, i ≤ 10 → (∀ p : Int, 0 ≤ p → p < i → sp_S t p → sp_can g f p) → (0 ≤ sp_tl (fun p => sp_if (sp_S t p) (sp_fare g p)) i 0 ∧ sp_tl (fun p => sp_if (sp_S t p) (sp_fare g p)) i 0 ≤ 2880 * i) ∧ 0 ≤ sp_tl (fun p => sp_if (sp_S t p) (sp_wt g p)) i 0 ∧ sp_tl (fun p => sp_if (sp_S t p) (sp_wt g p)) i 0 ≤ 40 * i := by
    intro i
    induction i with
    | zero => exact fun _ _ => ⟨⟨Int.le_refl _, Int.le_refl _⟩, Int.le_refl _, Int.le_refl _⟩
    | succ i ih =>
      intro hi hv
      have ih := ih (by omega) (fun p a b => hv p a (by omega))
      rw [sp_tl_last, sp_tl_last, Int.zero_add]
      rcases Classical.em (sp_S t i) with s | s
      · have c := hv i (by omega) (by omega) s
        have := sp_fare_bd hI ⟨c.1, c.2.1⟩
        have := hI.moo i c.1 c.2.1
        rw [sp_ifT s, sp_ifT s]
        unfold sp_wt at ih ⊢
        omega
      · rw [sp_ifF s, sp_ifF s]
        omega
  have lp : ∀ (r : Nat) (i : Nat) (a b : Int), i ≤ 10 → 10 - i = r → (∀ p : Int, 0 ≤ p → p < i → sp_S t p → sp_can g f p) → a = sp_tl (fun p => sp_if (sp_S t p) (sp_fare g p)) i 0 → b = sp_car g f + sp_tl (fun p => sp_if (sp_S t p) (sp_wt g p)) i 0 → NW sc d_X12_worth D (12, [some (.inr (.inl (some 303))), some (.inl f), some (.inl t), some (.inl a), some (.inl b), some (.inl ((i : Int)))], [], (J, L, W), c, sl) Qr Qx := by
    intro r9
    induction r9 using Nat.strongRecOn with
    | ind r9 ih =>
      intro i a b hi hr hv ha hb
      have bi := bd i hi hv
      have ec : ((i : Int) + 1) = ((i + 1 : Nat) : Int) := by omega
      have bad : ∀ p, 0 ≤ p → p < 10 → sp_S t p → ¬ sp_can g f p → ¬ sp_fit g f t := fun p p0 p1 p2 p3 z => p3 (z.1 p p0 p1 p2)
      refine b_X12_worth_12 hD ?_
      rw [hg]
      refine ⟨fun q => ?_, fun q => ?_⟩
      · have e : i = 10 := by omega
        subst e
        refine ⟨by omega, by omega, fun z => h0 (fun y => ?_), fun z => ?_⟩
        · have := y.2
          unfold sp_tot at this
          omega
        · rw [ha]
          exact h1 ⟨fun p p0 p1 p2 => hv p p0 p1 p2, by unfold sp_tot; omega⟩
      · rw [sp_S_b ⟨ht.1, by omega⟩ ⟨by omega, by omega⟩]
        refine ⟨fun z => ⟨by omega, ?_⟩, fun z => ?_⟩
        · have ns : ¬ sp_S t i := fun y => z (sp_bT y)
          rw [ec]
          refine ih _ (by omega) (i + 1) a b (by omega) rfl (fun p p0 p1 p2 => ?_) ?_ ?_
          · by_cases e : p = i
            · exact absurd (e ▸ p2) ns
            · exact hv p p0 (by omega) p2
          · rw [sp_tl_last, Int.zero_add, sp_ifF ns]
            omega
          · rw [sp_tl_last, Int.zero_add, sp_ifF ns]
            omega
        · have s : sp_S t i := Classical.byContradiction (fun y => by rw [sp_bF y] at z; exact absurd z (by decide))
          refine ⟨fun y => h0 (bad i (by omega) (by omega) s (fun c => by have := c.2.1; omega)), fun y => ⟨by omega, by omega, by omega, by omega, fun x => h0 (bad i (by omega) (by omega) s (fun c => x c.2.2.1)), fun x => ⟨by omega, by omega, fun u => h0 (bad i (by omega) (by omega) s (fun c => c.2.2.2 u)), fun u => ?_⟩⟩⟩
          have c : sp_can g f i := ⟨by omega, y, x, u⟩
          have fb := sp_fare_bd hI ⟨c.1, c.2.1⟩
          have mb := hI.moo i c.1 c.2.1
          refine t_X12_fare (B := B) (by rw [hg]; exact hI) (by rw [hg]; exact hw) (by rw [hg]; exact ⟨c.1, c.2.1⟩) ?_
          refine b_X12_worth_59 ?_
          rw [hg]
          refine ⟨by omega, by omega, by omega, by omega, by omega, ?_⟩
          rw [ec]
          refine ih _ (by omega) (i + 1) _ _ (by omega) rfl (fun p p0 p1 p2 => ?_) ?_ ?_
          · by_cases e : p = i
            · rw [e]; exact c
            · exact hv p p0 (by omega) p2
          · rw [sp_tl_last, Int.zero_add, sp_ifT s, ha]
          · rw [sp_tl_last, Int.zero_add, sp_ifT s, hb]
            unfold sp_wt
            omega
  refine b_X12_worth_0 hD (t_X12_carried (B := B) (by rw [hg]; exact hI) ⟨hf.1, by omega⟩ ?_)
  refine b_X12_worth_7 ?_
  rw [hg]
  exact lp _ 0 0 _ (by omega) rfl (fun p a b => by omega) rfl (by simp [sp_tl])
/-- places behind the moons add nothing -/
theorem sp_tot_m {g : Int → Int} {f t : Int} {u : Int → Int} (h4 : 0 ≤ g 4 ∧ g 4 ≤ 10) (h : ∀ p, 0 ≤ p → p < 10 → sp_S t p → sp_can g f p) : sp_tot u t = sp_tl (fun p => sp_if (sp_S t p ∧ p < g 4) (u p)) (g 4).toNat 0 := by
  have key : ∀ k : Nat, (g 4).toNat + k ≤ 10 → sp_tl (fun p => sp_if (sp_S t p) (u p)) ((g 4).toNat + k) 0 = sp_tl (fun p => sp_if (sp_S t p) (u p)) (g 4).toNat 0 := by
    intro k
    induction k with
    | zero => exact fun _ => rfl
    | succ k ih =>
      intro hk
      rw [show (g 4).toNat + (k + 1) = (g 4).toNat + k + 1 by omega, sp_tl_last, ih (by omega), sp_ifF (fun s => by have := (h _ (by omega) (by omega) s).2.1; omega)]
      omega
  unfold sp_tot
  have := key (10 - (g 4).toNat) (by omega)
  rw [show (g 4).toNat + (10 - (g 4).toNat) = 10 by omega] at this
  rw [this]
  exact sp_tl_congr (fun x a b => sp_if_congr ⟨fun z => ⟨z, by omega⟩, fun z => z.1⟩)
theorem sp_S_lt {t p : Int} (ht : 0 ≤ t ∧ t < 1024) (h : sp_S t p) : 0 ≤ p ∧ p < 10 := by
  refine ⟨h.1, Classical.byContradiction (fun z => ?_)⟩
  have : t.toNat.testBit p.toNat = false := Nat.testBit_lt_two_pow (Nat.lt_of_lt_of_le (show t.toNat < 2 ^ 10 by omega) (Nat.pow_le_pow_right (by decide) (by omega)))
  rw [h.2] at this
  cases this
/-- every set of places is a number -/
theorem sp_S_mk (T : Int → Prop) : ∀ k : Nat, k ≤ 10 → ∃ t : Int, (0 ≤ t ∧ t < 1024) ∧ ∀ p, sp_S t p ↔ (0 ≤ p ∧ p < k ∧ T p)
  | 0, _ => ⟨0, ⟨by decide, by decide⟩, fun p => ⟨fun h => absurd h sp_S_0, fun h => by omega⟩⟩
  | k + 1, hk => by
    obtain ⟨t, ht, hp⟩ := sp_S_mk T k (by omega)
    rcases Classical.em (T k) with c | c
    · have so := sp_S_or10 ht (a := (k : Int)) ⟨by omega, by omega⟩
      refine ⟨_, so.1, fun p => ?_⟩
      rw [so.2 p, hp p]
      constructor
      · rintro (h | h)
        · exact ⟨h.1, by omega, h.2.2⟩
        · rw [h]
          exact ⟨by omega, by omega, c⟩
      · rintro ⟨h1, h2, h3⟩
        by_cases e : p = k
        · exact Or.inr e
        · exact Or.inl ⟨h1, by omega, h3⟩
    · refine ⟨t, ht, fun p => ?_⟩
      rw [hp p]
      constructor
      · rintro ⟨h1, h2, h3⟩
        exact ⟨h1, by omega, h3⟩
      · rintro ⟨h1, h2, h3⟩
        have : ¬ p = k := fun e => c (e ▸ h3)
        exact ⟨h1, by omega, h3⟩
/-- t is the best so far -/
def sp_bst (g : Int → Int) (f b k : Int) : Prop := (0 ≤ b ∧ b < 1024) ∧ sp_fit g f b ∧ ∀ t, 0 ≤ t → t < k → sp_fit g f t → sp_tot (sp_fare g) t < sp_tot (sp_fare g) b ∨ (sp_tot (sp_fare g) t = sp_tot (sp_fare g) b ∧ (t = b ∨ sp_lx 10 (sp_S b) (sp_S t)))
theorem sp_bst_end {g : Int → Int} {B f b : Int} (hI : Inv g B) (hf : 0 ≤ f ∧ f < g 3) (h : sp_bst g f b 1024) : (∀ p, sp_S b p ↔ (sp_best g f).2 p) ∧ sp_tot (sp_fare g) b = (sp_best g f).1 := by
  have km := hI.mo
  have ca := hI.car f hf.1 hf.2
  obtain ⟨hb, hfit, hm⟩ := h
  have in4 : ∀ x, sp_S b x → 0 ≤ x ∧ x < ((g 4).toNat : Nat) ∧ sp_can g f x := fun x hx => by
    have a := sp_S_lt hb hx
    have c := hfit.1 x a.1 a.2 hx
    have := c.2.1
    exact ⟨a.1, by omega, c⟩
  have conv : ∀ u : Int → Int, sp_tot u b = sp_tl (fun p => sp_if (sp_S b p) (u p)) (g 4).toNat 0 := fun u => by
    rw [sp_tot_m km hfit.1]
    exact sp_tl_congr (fun x a c => sp_if_congr ⟨fun z => z.1, fun z => ⟨z, by omega⟩⟩)
  have uq := sp_E_uniq (C := sp_can g f) (w := sp_wt g) (v := sp_fare g) (fun x hx => by have := hI.moo x hx.1 hx.2.1; unfold sp_wt; omega) (k := (g 4).toNat) (r := g (68 + f) - sp_car g f) (S := sp_S b) (by omega) in4 (by rw [← conv]; exact hfit.2) (fun T hT hr => ?_)
  · exact ⟨uq.1, by rw [conv]; exact uq.2⟩
  · obtain ⟨t, ht, htp⟩ := sp_S_mk T 10 (Nat.le_refl _)
    have eT : ∀ p, sp_S t p ↔ T p := fun p => (htp p).trans ⟨fun z => z.2.2, fun z => by have := hT p z; exact ⟨this.1, by omega, z⟩⟩
    have fT : ∀ p, 0 ≤ p → p < 10 → sp_S t p → sp_can g f p := fun p _ _ z => (hT p ((eT p).mp z)).2.2
    have convT : ∀ u : Int → Int, sp_tot u t = sp_tl (fun p => sp_if (T p) (u p)) (g 4).toNat 0 := fun u => by
      rw [sp_tot_m km fT]
      exact sp_tl_congr (fun x a c => sp_if_congr ⟨fun z => (eT x).mp z.1, fun z => ⟨(eT x).mpr z, by omega⟩⟩)
    have := hm t ht.1 ht.2 ⟨fT, by rw [convT]; exact hr⟩
    rw [convT, conv] at this
    rcases this with z | ⟨z, z2⟩
    · exact Or.inl z
    · refine Or.inr ⟨z, ?_⟩
      rcases z2 with z2 | ⟨y, y0, y1, y2, y3, y4⟩
      · exact Or.inl (fun x _ _ => by rw [← z2]; exact (eT x).symm)
      · have := in4 y y2
        exact Or.inr ⟨y, y0, by omega, y2, fun w => y3 ((eT y).mpr w), fun x a c => (y4 x a c).trans (eT x)⟩
theorem sp_fit_0 {g : Int → Int} {B f : Int} (hI : Inv g B) (hf : 0 ≤ f ∧ f < g 3) : sp_fit g f 0 ∧ sp_tot (sp_fare g) 0 = 0 := by
  have ca := hI.car f hf.1 hf.2
  have z : ∀ u : Int → Int, sp_tot u 0 = 0 := fun u => sp_tl_zero (fun x _ _ => sp_ifF sp_S_0)
  exact ⟨⟨fun p _ _ h => absurd h sp_S_0, by rw [z]; omega⟩, z _⟩
theorem t_X12_best {f : Int} (hI : Inv (J 304) B) (hf : 0 ≤ f ∧ f < J 304 3) (hD : 2 ≤ D) (hQ : ∀ J' b, (∀ x, ¬ x = 310 → J' x = J x) → (∀ k, 0 ≤ k → k < 36 → J' 310 k = sp_D (J 304) (k / 6) (k % 6)) → (0 ≤ b ∧ b < 1024) → (∀ p, sp_S b p ↔ (sp_best (J 304) f).2 p) → sp_fit (J 304) f b → sp_tot (sp_fare (J 304)) b = (sp_best (J 304) f).1 → Qr (some (.inl b)) (J', L, W)) : NW sc d_X12_best D (0, [some (.inr (.inl (some 303))), some (.inl f), none, none, none, none], [], (J, L, W), c, sl) Qr Qx := by
  refine b_X12_best_0 hD (t_X12_finds hI (fun J1 hx hw => b_X12_best_4 ?_))
  obtain ⟨g, hg⟩ : ∃ g, J 304 = g := ⟨_, rfl⟩
  have g1 : J1 304 = g := by rw [hx 304 (by decide)]; exact hg
  rw [hg] at hI hf hQ hw
  have f0 := sp_fit_0 hI hf
  have lp : ∀ (r : Nat) (k b m : Int), 1 ≤ k → k ≤ 1024 → (1024 - k).toNat = r → sp_bst g f b k → m = sp_tot (sp_fare g) b → NW sc d_X12_best D (11, [some (.inr (.inl (some 303))), some (.inl f), some (.inl b), some (.inl m), some (.inl k), none], [], (J1, L, W), c, sl) Qr Qx := by
    intro r9
    induction r9 using Nat.strongRecOn with
    | ind r9 ih =>
      intro k b m k0 k1 hr hb hm
      refine b_X12_best_11 hD ⟨fun q => ?_, fun q => ?_⟩
      · have e : k = 1024 := by omega
        rw [e] at hb
        have := sp_bst_end hI hf hb
        exact hQ J1 b hx hw hb.1 this.1 hb.2.1 this.2
      · have keep : (sp_fit g f k → sp_tot (sp_fare g) k < sp_tot (sp_fare g) b ∨ (sp_tot (sp_fare g) k = sp_tot (sp_fare g) b ∧ ¬ sp_lx 10 (sp_S k) (sp_S b))) → sp_bst g f b (k + 1) := fun w => ⟨hb.1, hb.2.1, fun t t0 t1 ht => by
          by_cases e : t = k
          · rw [e] at ht ⊢
            rcases w ht with w | ⟨w1, w2⟩
            · exact Or.inl w
            · refine Or.inr ⟨w1, ?_⟩
              by_cases e2 : k = b
              · exact Or.inl e2
              · refine Or.inr ?_
                -- the lowest place where they differ
                have df : ∃ n : Nat, n < 10 ∧ ¬ (sp_S k n ↔ sp_S b n) := Classical.byContradiction (fun z => e2 (by
                  have : k.toNat = b.toNat := Nat.eq_of_testBit_eq (fun i => by
                    by_cases hi : i < 10
                    · have h1 : sp_S k i ↔ sp_S b i := Classical.byContradiction (fun y => z ⟨i, hi, y⟩)
                      unfold sp_S at h1
                      rw [Int.toNat_natCast] at h1
                      cases a : k.toNat.testBit i <;> cases c9 : b.toNat.testBit i
                      · rfl
                      · exact absurd (h1.mpr ⟨by omega, c9⟩).2 (by rw [a]; decide)
                      · exact absurd (h1.mp ⟨by omega, a⟩).2 (by rw [c9]; decide)
                      · rfl
                    · have p10 : ∀ x : Nat, x < 1024 → x.testBit i = false := fun x hx9 => Nat.testBit_lt_two_pow (Nat.lt_of_lt_of_le (show x < 2 ^ 10 by omega) (Nat.pow_le_pow_right (by decide) (by omega)))
                      rw [p10 _ (by omega), p10 _ (by have := hb.1; omega)])
                  have := hb.1
                  omega))
                have least : ∀ n : Nat, (n < 10 ∧ ¬ (sp_S k n ↔ sp_S b n)) → ∃ y : Int, 0 ≤ y ∧ y < 10 ∧ ¬ (sp_S k y ↔ sp_S b y) ∧ ∀ x, 0 ≤ x → x < y → (sp_S k x ↔ sp_S b x) := by
                  intro n
                  induction n using Nat.strongRecOn with
                  | ind n ihn =>
                    intro hn
                    rcases Classical.em (∃ j : Nat, j < n ∧ ¬ (sp_S k j ↔ sp_S b j)) with ⟨j, j0, j1⟩ | z
                    · exact ihn j j0 ⟨by omega, j1⟩
                    · refine ⟨n, by omega, by omega, hn.2, fun x x0 x1 => Classical.byContradiction (fun y => z ⟨x.toNat, by omega, ?_⟩)⟩
                      rw [Int.toNat_of_nonneg x0]
                      exact y
                obtain ⟨n, hn⟩ := df
                obtain ⟨y, y0, y1, y2, y3⟩ := least n hn
                rcases Classical.em (sp_S b y) with u | u
                · exact ⟨y, y0, y1, u, fun z => y2 ⟨fun _ => u, fun _ => z⟩, fun x a c9 => (y3 x a c9).symm⟩
                · refine absurd ⟨y, y0, y1, Classical.byContradiction (fun z => y2 ⟨fun h => absurd h z, fun h => absurd h u⟩), u, y3⟩ w2
          · exact hb.2.2 t t0 (by omega) ht⟩
        have take : sp_fit g f k → (sp_tot (sp_fare g) b < sp_tot (sp_fare g) k ∨ (sp_tot (sp_fare g) k = sp_tot (sp_fare g) b ∧ sp_lx 10 (sp_S k) (sp_S b))) → sp_bst g f k (k + 1) := fun hfk w => ⟨⟨by omega, by omega⟩, hfk, fun t t0 t1 ht => by
          by_cases e : t = k
          · exact Or.inr ⟨by rw [e], Or.inl e⟩
          · have h1 := hb.2.2 t t0 (by omega) ht
            rcases w with w | ⟨w1, w2⟩
            · refine Or.inl ?_
              rcases h1 with h1 | h1
              · omega
              · have := h1.1
                omega
            · rcases h1 with h1 | ⟨h1, h2⟩
              · exact Or.inl (by omega)
              · refine Or.inr ⟨by omega, Or.inr ?_⟩
                rcases h2 with h2 | h2
                · rw [h2]
                  exact w2
                · exact sp_lx_trans w2 h2⟩
        have nx : ∀ b' m', sp_bst g f b' (k + 1) → m' = sp_tot (sp_fare g) b' → NW sc d_X12_best D (11, [some (.inr (.inl (some 303))), some (.inl f), some (.inl (b')), some (.inl (m')), some (.inl (k + 1)), none], [], (J1, L, W), c, sl) Qr Qx := fun b' m' h1 h2 => ih _ (by omega) (k + 1) b' m' (by omega) (by omega) rfl h1 h2
        have nnb : 0 ≤ sp_tot (sp_fare g) b := by
          unfold sp_tot
          exact sp_tl_nn (fun x a c9 => sp_if_nn (fun z => (sp_fare_bd hI ⟨a, (hb.2.1.1 x a (by omega) z).2.1⟩).1))
        refine t_X12_worth (B := B) (by rw [g1]; exact hI) (by rw [g1]; exact hw) (by rw [g1]; exact hf) ⟨by omega, q⟩ (by decide) (fun hfk => ?_) (fun hfk => ?_)
        · rw [g1] at hfk ⊢
          refine b_X12_best_26 hD ⟨fun z => ⟨by omega, nx _ _ (take hfk (Or.inl (by omega))) rfl⟩, fun z => ⟨fun y => ⟨by omega, nx _ _ (keep (fun _ => Or.inl (by omega))) hm⟩, fun y => ?_⟩⟩
          refine t_X12_isPreferred ⟨by omega, q⟩ hb.1 (fun u => ?_) (fun u => ?_)
          · exact b_X12_best_46 ⟨fun x => absurd x (by decide), fun _ => ⟨by omega, nx _ _ (take hfk (Or.inr ⟨by omega, u⟩)) (by omega)⟩⟩
          · exact b_X12_best_46 ⟨fun _ => ⟨by omega, nx _ _ (keep (fun _ => Or.inr ⟨by omega, u⟩)) hm⟩, fun x => absurd rfl x⟩
        · rw [g1] at hfk
          refine b_X12_best_26 hD ⟨fun z => by omega, fun z => ⟨fun y => ⟨by omega, nx _ _ (keep (fun w => absurd w hfk)) hm⟩, fun y => by omega⟩⟩
  refine lp _ 1 0 0 (by omega) (by omega) rfl ⟨⟨by decide, by decide⟩, f0.1, fun t t0 t1 ht => Or.inr ?_⟩ f0.2.symm
  have e : t = 0 := by omega
  rw [e]
  exact ⟨rfl, Or.inl rfl⟩
end
