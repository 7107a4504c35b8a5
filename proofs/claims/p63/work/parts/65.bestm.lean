/-! loads in the reference: all sets -/
section
variable {sc : Nat × (Nat → Int32)} {D : Nat} {J L : Nat → Int → Int} {W : nw_W} {c sl : Nat} {Qr : nw_QR} {Qx : nw_QX} {g : Int → Int} {B : Int}
theorem sp_pref {x y : Int} (hx : 0 ≤ x ∧ x < 1024) (hy : 0 ≤ y ∧ y < 1024) : (0 ≤ nw_xixor x y ∧ nw_xixor x y < 1024) ∧ (nw_xiand (nw_xiand x (nw_xixor x y)) (-(nw_xixor x y)) = 0 ↔ ¬ sp_lx 10 (sp_S x) (sp_S y)) := by
  obtain ⟨m, rfl⟩ : ∃ m : Nat, x = m := ⟨x.toNat, by omega⟩
  obtain ⟨k, rfl⟩ : ∃ k : Nat, y = k := ⟨y.toNat, by omega⟩
  have hm : m < 2 ^ 10 := by omega
  have hk : k < 2 ^ 10 := by omega
  have hu : m ^^^ k < 2 ^ 10 := Nat.xor_lt_two_pow hm hk
  have eu : nw_xixor (m : Int) (k : Int) = ((m ^^^ k : Nat) : Int) := by rw [nw_xor ⟨by omega, by omega⟩ ⟨by omega, by omega⟩, Int.toNat_natCast, Int.toNat_natCast]
  rw [eu]
  refine ⟨⟨by omega, by omega⟩, ?_⟩
  have bM : (Int32.ofInt (m : Int)).toBitVec = BitVec.ofNat 32 m := by rw [nw_bv ⟨by omega, by omega⟩, Int.toNat_natCast]
  have bU : (Int32.ofInt ((m ^^^ k : Nat) : Int)).toBitVec = BitVec.ofNat 32 (m ^^^ k) := by rw [nw_bv ⟨by omega, by omega⟩, Int.toNat_natCast]
  have eV : nw_xiand (nw_xiand (m : Int) ((m ^^^ k : Nat) : Int)) (-((m ^^^ k : Nat) : Int)) = (Int32.ofInt (m : Int) &&& Int32.ofInt ((m ^^^ k : Nat) : Int) &&& -Int32.ofInt ((m ^^^ k : Nat) : Int)).toInt := by
    unfold nw_xiand
    rw [Int32.ofInt_toInt, Int32.ofInt_neg]
  have bV : (Int32.ofInt (m : Int) &&& Int32.ofInt ((m ^^^ k : Nat) : Int) &&& -Int32.ofInt ((m ^^^ k : Nat) : Int)).toBitVec = BitVec.ofNat 32 m &&& BitVec.ofNat 32 (m ^^^ k) &&& -BitVec.ofNat 32 (m ^^^ k) := by
    rw [Int32.toBitVec_and, Int32.toBitVec_and, Int32.toBitVec_neg, bM, bU]
  have z1 : (Int32.ofInt (m : Int) &&& Int32.ofInt ((m ^^^ k : Nat) : Int) &&& -Int32.ofInt ((m ^^^ k : Nat) : Int)).toInt = 0 ↔ BitVec.ofNat 32 m &&& BitVec.ofNat 32 (m ^^^ k) &&& -BitVec.ofNat 32 (m ^^^ k) = 0#32 := by
    rw [← bV]
    constructor
    · intro h
      have : Int32.ofInt (m : Int) &&& Int32.ofInt ((m ^^^ k : Nat) : Int) &&& -Int32.ofInt ((m ^^^ k : Nat) : Int) = 0 := Int32.toInt_inj.mp (h.trans rfl)
      rw [this]
      rfl
    · intro h
      have : Int32.ofInt (m : Int) &&& Int32.ofInt ((m ^^^ k : Nat) : Int) &&& -Int32.ofInt ((m ^^^ k : Nat) : Int) = 0 := Int32.toBitVec_inj.mp (h.trans rfl)
      rw [this]
      rfl
  have bt : ∀ i, (BitVec.ofNat 32 m &&& BitVec.ofNat 32 (m ^^^ k) &&& -BitVec.ofNat 32 (m ^^^ k)).getLsbD i = true ↔ i < 32 ∧ (m.testBit i = true ∧ k.testBit i = false ∧ ∀ j, j < i → m.testBit j = k.testBit j) := by
    intro i
    rw [BitVec.getLsbD_and, BitVec.getLsbD_and, BitVec.getLsbD_neg, BitVec.getLsbD_ofNat, BitVec.getLsbD_ofNat, Nat.testBit_xor]
    by_cases hi : i < 32
    · have e : (∃ j, j < i ∧ (BitVec.ofNat 32 (m ^^^ k)).getLsbD j = true) ↔ ¬ ∀ j, j < i → m.testBit j = k.testBit j := by
        constructor
        · rintro ⟨j, j0, j1⟩ h
          rw [BitVec.getLsbD_ofNat, Nat.testBit_xor, h j j0] at j1
          simp at j1
        · intro h
          refine Classical.byContradiction (fun h2 => h (fun j j0 => Classical.byContradiction (fun j1 => h2 ⟨j, j0, ?_⟩)))
          rw [BitVec.getLsbD_ofNat, Nat.testBit_xor]
          have : j < 32 := by omega
          revert j1
          cases m.testBit j <;> cases k.testBit j <;> simp [this]
      by_cases hl : ∀ j, j < i → m.testBit j = k.testBit j
      · have d : decide (∃ j, j < i ∧ (BitVec.ofNat 32 (m ^^^ k)).getLsbD j = true) = false := decide_eq_false (fun z => (e.mp z) hl)
        rw [d]
        have : (∀ j, j < i → m.testBit j = k.testBit j) = True := eq_true hl
        rw [this]
        cases m.testBit i <;> cases k.testBit i <;> simp [hi]
      · have d : decide (∃ j, j < i ∧ (BitVec.ofNat 32 (m ^^^ k)).getLsbD j = true) = true := decide_eq_true (e.mpr hl)
        rw [d]
        have : (∀ j, j < i → m.testBit j = k.testBit j) = False := eq_false hl
        rw [this]
        cases m.testBit i <;> cases k.testBit i <;> simp [hi]
    · simp [hi]
  rw [eV, z1]
  have big : ∀ i, 10 ≤ i → m.testBit i = false := fun i hi => Nat.testBit_lt_two_pow (Nat.lt_of_lt_of_le hm (Nat.pow_le_pow_right (by decide) hi))
  constructor
  · rintro h ⟨y, y0, y1, y2, y3, y4⟩
    have := (bt y.toNat).mpr ⟨by omega, y2.2, ?_, fun j hj => ?_⟩
    · rw [h] at this
      simp at this
    · cases hb : k.testBit y.toNat with
      | false => rfl
      | true => exact absurd ⟨y0, hb⟩ y3
    · have e := y4 (j : Int) (by omega) (by omega)
      unfold sp_S at e
      simp only [Int.toNat_natCast] at e
      cases a : m.testBit j <;> cases b : k.testBit j
      · rfl
      · exact absurd (e.mpr ⟨by omega, b⟩).2 (by rw [a]; decide)
      · exact absurd (e.mp ⟨by omega, a⟩).2 (by rw [b]; decide)
      · rfl
  · intro h
    refine BitVec.eq_of_getLsbD_eq (fun i hi => ?_)
    cases hb : (BitVec.ofNat 32 m &&& BitVec.ofNat 32 (m ^^^ k) &&& -BitVec.ofNat 32 (m ^^^ k)).getLsbD i with
    | false => simp
    | true =>
      obtain ⟨h1, h2, h3, h4⟩ := (bt i).mp hb
      have i10 : i < 10 := Classical.byContradiction (fun z => by rw [big i (by omega)] at h2; cases h2)
      refine absurd ⟨(i : Int), by omega, by omega, ⟨by omega, by rw [Int.toNat_natCast, Int.toNat_natCast]; exact h2⟩, fun z => ?_, fun x x0 x1 => ?_⟩ h
      · have := z.2
        rw [Int.toNat_natCast, Int.toNat_natCast, h3] at this
        cases this
      · have := h4 x.toNat (by omega)
        unfold sp_S
        rw [Int.toNat_natCast, Int.toNat_natCast, this]
/-- a sum over the places below ten of a set -/
noncomputable def sp_tot (u : Int → Int) (t : Int) : Int := sp_tl (fun p => sp_if (sp_S t p) (u p)) 10 0
/-- set t is a load of ferry f -/
def sp_fit (g : Int → Int) (f t : Int) : Prop := (∀ p, 0 ≤ p → p < 10 → sp_S t p → sp_can g f p) ∧ sp_tot (sp_wt g) t ≤ g (68 + f) - sp_car g f
/-- places behind the moons add nothing -/
theorem sp_tot_m {g : Int → Int} {f t : Int} {u : Int → Int} (h4 : 0 ≤ g 4 ∧ g 4 ≤ 10) (h : ∀ p, 0 ≤ p → p < 10 → sp_S t p → sp_can g f p) : sp_tot u t = sp_tl (fun p => sp_if (sp_S t p ∧ p < g 4) (u p)) (g 4).toNat 0 := by
  have key : ∀ k : Nat, (g 4).toNat + k ≤ 10 → sp_tl (fun p => sp_if (sp_S t p) (u p)) ((g 4).toNat + k) 0 = sp_tl (fun p => sp_if (sp_S t p) (u p)) (g 4).toNat 0 := by
    intro k
    induction k with
    | zero => exact fun _ => rfl
    | succ k ih =>
      intro hk
      rw [show (g 4).toNat + (k + 1) = (g 4).toNat + k + 1 by omega, sp_tl_last, ih (by omega), sp_ifF (fun s => by have := (h _ (by omega) (by omega) s).2.1; omega)]
      omega
  unfold sp_tot
  have := key (10 - (g 4).toNat) (by omega)
  rw [show (g 4).toNat + (10 - (g 4).toNat) = 10 by omega] at this
  rw [this]
  exact sp_tl_congr (fun x a b => sp_if_congr ⟨fun z => ⟨z, by omega⟩, fun z => z.1⟩)
theorem sp_S_lt {t p : Int} (ht : 0 ≤ t ∧ t < 1024) (h : sp_S t p) : 0 ≤ p ∧ p < 10 := by
  refine ⟨h.1, Classical.byContradiction (fun z => ?_)⟩
  have : t.toNat.testBit p.toNat = false := Nat.testBit_lt_two_pow (Nat.lt_of_lt_of_le (show t.toNat < 2 ^ 10 by omega) (Nat.pow_le_pow_right (by decide) (by omega)))
  rw [h.2] at this
  cases this
/-- every set of places is a number -/
theorem sp_S_mk (T : Int → Prop) : ∀ k : Nat, k ≤ 10 → ∃ t : Int, (0 ≤ t ∧ t < 1024) ∧ ∀ p, sp_S t p ↔ (0 ≤ p ∧ p < k ∧ T p)
  | 0, _ => ⟨0, ⟨by decide, by decide⟩, fun p => ⟨fun h => absurd h sp_S_0, fun h => by omega⟩⟩
  | k + 1, hk => by
    obtain ⟨t, ht, hp⟩ := sp_S_mk T k (by omega)
    rcases Classical.em (T k) with c | c
    · have so := sp_S_or10 ht (a := (k : Int)) ⟨by omega, by omega⟩
      refine ⟨_, so.1, fun p => ?_⟩
      rw [so.2 p, hp p]
      constructor
      · rintro (h | h)
        · exact ⟨h.1, by omega, h.2.2⟩
        · rw [h]
          exact ⟨by omega, by omega, c⟩
      · rintro ⟨h1, h2, h3⟩
        by_cases e : p = k
        · exact Or.inr e
        · exact Or.inl ⟨h1, by omega, h3⟩
    · refine ⟨t, ht, fun p => ?_⟩
      rw [hp p]
      constructor
      · rintro ⟨h1, h2, h3⟩
        exact ⟨h1, by omega, h3⟩
      · rintro ⟨h1, h2, h3⟩
        have : ¬ p = k := fun e => c (e ▸ h3)
        exact ⟨h1, by omega, h3⟩
/-- t is the best so far -/
def sp_bst (g : Int → Int) (f b k : Int) : Prop := (0 ≤ b ∧ b < 1024) ∧ sp_fit g f b ∧ ∀ t, 0 ≤ t → t < k → sp_fit g f t → sp_tot (sp_fare g) t < sp_tot (sp_fare g) b ∨ (sp_tot (sp_fare g) t = sp_tot (sp_fare g) b ∧ (t = b ∨ sp_lx 10 (sp_S b) (sp_S t)))
theorem sp_bst_end {g : Int → Int} {B f b : Int} (hI : Inv g B) (hf : 0 ≤ f ∧ f < g 3) (h : sp_bst g f b 1024) : (∀ p, sp_S b p ↔ (sp_best g f).2 p) ∧ sp_tot (sp_fare g) b = (sp_best g f).1 := by
  have km := hI.mo
  have ca := hI.car f hf.1 hf.2
  obtain ⟨hb, hfit, hm⟩ := h
  have in4 : ∀ x, sp_S b x → 0 ≤ x ∧ x < ((g 4).toNat : Nat) ∧ sp_can g f x := fun x hx => by
    have a := sp_S_lt hb hx
    have c := hfit.1 x a.1 a.2 hx
    have := c.2.1
    exact ⟨a.1, by omega, c⟩
  have conv : ∀ u : Int → Int, sp_tot u b = sp_tl (fun p => sp_if (sp_S b p) (u p)) (g 4).toNat 0 := fun u => by
    rw [sp_tot_m km hfit.1]
    exact sp_tl_congr (fun x a c => sp_if_congr ⟨fun z => z.1, fun z => ⟨z, by omega⟩⟩)
  have uq := sp_E_uniq (C := sp_can g f) (w := sp_wt g) (v := sp_fare g) (fun x hx => by have := hI.moo x hx.1 hx.2.1; unfold sp_wt; omega) (k := (g 4).toNat) (r := g (68 + f) - sp_car g f) (S := sp_S b) (by omega) in4 (by rw [← conv]; exact hfit.2) (fun T hT hr => ?_)
  · exact ⟨uq.1, by rw [conv]; exact uq.2⟩
  · obtain ⟨t, ht, htp⟩ := sp_S_mk T 10 (Nat.le_refl _)
    have eT : ∀ p, sp_S t p ↔ T p := fun p => (htp p).trans ⟨fun z => z.2.2, fun z => by have := hT p z; exact ⟨this.1, by omega, z⟩⟩
    have fT : ∀ p, 0 ≤ p → p < 10 → sp_S t p → sp_can g f p := fun p _ _ z => (hT p ((eT p).mp z)).2.2
    have convT : ∀ u : Int → Int, sp_tot u t = sp_tl (fun p => sp_if (T p) (u p)) (g 4).toNat 0 := fun u => by
      rw [sp_tot_m km fT]
      exact sp_tl_congr (fun x a c => sp_if_congr ⟨fun z => (eT x).mp z.1, fun z => ⟨(eT x).mpr z, by omega⟩⟩)
    have := hm t ht.1 ht.2 ⟨fT, by rw [convT]; exact hr⟩
    rw [convT, conv] at this
    rcases this with z | ⟨z, z2⟩
    · exact Or.inl z
    · refine Or.inr ⟨z, ?_⟩
      rcases z2 with z2 | ⟨y, y0, y1, y2, y3, y4⟩
      · exact Or.inl (fun x _ _ => by rw [← z2]; exact (eT x).symm)
      · have := in4 y y2
        exact Or.inr ⟨y, y0, by omega, y2, fun w => y3 ((eT y).mpr w), fun x a c => (y4 x a c).trans (eT x)⟩
theorem sp_fit_0 {g : Int → Int} {B f : Int} (hI : Inv g B) (hf : 0 ≤ f ∧ f < g 3) : sp_fit g f 0 ∧ sp_tot (sp_fare g) 0 = 0 := by
  have ca := hI.car f hf.1 hf.2
  have z : ∀ u : Int → Int, sp_tot u 0 = 0 := fun u => sp_tl_zero (fun x _ _ => sp_ifF sp_S_0)
  exact ⟨⟨fun p _ _ h => absurd h sp_S_0, by rw [z]; omega⟩, z _⟩
end

