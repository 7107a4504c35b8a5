/-! loads in the class: gathering, deciding -/
section
variable {sc : Nat × (Nat → Int32)} {D : Nat} {J L : Nat → Int → Int} {W : nw_W} {c sl : Nat} {Qr : nw_QR} {Qx : nw_QX} {g : Int → Int} {B : Int}
/-- moon p could be loaded on ferry f -/
def sp_can (g : Int → Int) (f p : Int) : Prop := 0 ≤ p ∧ p < g 4 ∧ g (121 + p) = g (56 + f) ∧ ¬ g (111 + p) = 0
def sp_wt (g : Int → Int) (p : Int) : Int := g (101 + p)
/-- the best load of ferry f: its sum and its set -/
noncomputable def sp_best (g : Int → Int) (f : Int) : Int × (Int → Prop) := sp_E (sp_can g f) (sp_wt g) (sp_fare g) (g 4).toNat 0 (g (68 + f) - sp_car g f)
/-- what was gathered of the moons below i: n of them -/
def sp_gl (g : Int → Int) (f : Int) (J : Nat → Int → Int) (n i : Int) : Prop :=
  (0 ≤ n ∧ n ≤ i) ∧ (∀ j, 0 ≤ j → j < n → 0 ≤ J 27 j ∧ J 27 j < i ∧ sp_can g f (J 27 j) ∧ J 52 j = sp_wt g (J 27 j) ∧ J 53 j = sp_fare g (J 27 j)) ∧ (∀ j k, 0 ≤ j → j < k → k < n → J 27 j < J 27 k) ∧ (∀ p, 0 ≤ p → p < i → sp_can g f p → ∃ j, 0 ≤ j ∧ j < n ∧ J 27 j = p)
def sp_glF (x : Nat) : Prop := x = 26 ∨ x = 27 ∨ x = 30 ∨ (40 ≤ x ∧ x ≤ 42) ∨ x = 52 ∨ x = 53
theorem t_X6_gather {f : Int} (hR : RC J L g) (hI : Inv g B) (hf : 0 ≤ f ∧ f < g 3) (hs : ¬ sp_sea g f) (hD : 3 ≤ D) (hQ : ∀ J' n, (∀ x, ¬ sp_glF x → J' x = J x) → J' 26 0 = n → J' 26 4 = g (68 + f) - sp_car g f → sp_gl g f J' n (g 4) → Qr none (J', L, W)) : NW sc d_X6_gather D (0, [some (.inr (.inl (some 26))), some (.inr (.inl (some 2))), some (.inl f), none, none, none], [], (J, L, W), c, sl) Qr Qx := by
  have kf := hI.fe
  have kc := hI.cr
  have km := hI.mo
  have fr := hR.fer f hf.1 hf.2
  have fi := hI.fer f hf.1 hf.2
  have ca := hI.car f hf.1 hf.2
  have cb := sp_car_bd (f := f) hI
  unfold sp_sea at hs
  have lp : ∀ (r : Nat) (i n : Int) (J1 : Nat → Int → Int), 0 ≤ i → i ≤ g 4 → (g 4 - i).toNat = r → (∀ x, ¬ sp_glF x → J1 x = J x) → J1 26 0 = n → J1 26 4 = g (68 + f) - sp_car g f → sp_gl g f J1 n i → NW sc d_X6_gather D (43, [some (.inr (.inl (some 26))), some (.inr (.inl (some 2))), none, some (.inr (.inl (some 18))), some (.inl (g (56 + f))), some (.inl i)], [], (J1, L, W), c, sl) Qr Qx := by
    intro r9
    induction r9 using Nat.strongRecOn with
    | ind r9 ih =>
      intro i n J1 i0 i1 hr hx hn hroom hl
      have R1 : RC J1 L g := RC.keep hR hI (fun x a b => hx x (by unfold sp_glF; omega))
      refine b_X6_gather_43 hD ?_
      rw [R1.mo]
      refine ⟨fun q => ?_, fun q => ⟨by omega, ?_⟩⟩
      · have e : i = g 4 := by omega
        rw [e] at hl
        exact hQ J1 n hx hn hroom hl
      have mr := R1.moo i i0 q
      have mi := hI.moo i i0 q
      have skip : ¬ sp_can g f i → NW sc d_X6_gather D (43, [some (.inr (.inl (some 26))), some (.inr (.inl (some 2))), none, some (.inr (.inl (some 18))), some (.inl (g (56 + f))), some (.inl (i + 1))], [], (J1, L, W), c, sl) Qr Qx := fun w => by
        refine ih _ (by omega) (i + 1) n J1 (by omega) (by omega) rfl hx hn hroom ⟨⟨hl.1.1, by have := hl.1; omega⟩, fun j a b => ?_, hl.2.2.1, fun p a b h => ?_⟩
        · have := hl.2.1 j a b
          exact ⟨this.1, by omega, this.2.2⟩
        · by_cases e : p = i
          · exact absurd (e ▸ h) w
          · exact hl.2.2.2 p a (by omega) h
      refine ⟨fun z => ⟨by omega, skip (fun w => by have := w.2.2.1; omega)⟩, fun z => ⟨fun y => ⟨by omega, skip (fun w => w.2.2.2 (by omega))⟩, fun y => ?_⟩⟩
      have can : sp_can g f i := ⟨i0, q, by omega, by omega⟩
      have n1 := hl.1
      rw [hn]
      refine ⟨by omega, ?_⟩
      rw [mr.2.2.2.1]
      have hx2 : ∀ x, ¬ sp_glF x → nw_u (nw_u J1 27 n i) 52 n (g (101 + i)) x = J x := fun x w => by
        rw [nw_uP (fun e => w (by unfold sp_glF; omega)), nw_uP (fun e => w (by unfold sp_glF; omega))]
        exact hx x w
      refine t_X3_fareAt (RC.keep hR hI (fun x a b => hx2 x (by unfold sp_glF; omega))) hI ⟨i0, q⟩ (by decide) (fun J2 hx3 => ?_)
      have j26 : J2 26 0 = n := by rw [hx3 26 (by omega), nw_uN (by decide), nw_uN (by decide)]; exact hn
      have v27 : ∀ j, J2 27 j = if j = n then i else J1 27 j := fun j => by
        rw [hx3 27 (by omega), nw_uN (by decide), nw_u304]
        rfl
      have v52 : ∀ j, J2 52 j = if j = n then g (101 + i) else J1 52 j := fun j => by
        rw [hx3 52 (by omega), nw_u304, nw_uP (by decide)]
        rfl
      refine b_X6_gather_119 ⟨by omega, ?_⟩
      rw [j26]
      refine ⟨by omega, by omega, ?_⟩
      have w27 : ∀ j, nw_u (nw_u J2 53 n (sp_fare g i)) 26 0 (n + 1) 27 j = if j = n then i else J1 27 j := fun j => by
        rw [nw_uN (by decide), nw_uN (by decide)]
        exact v27 j
      have w52 : ∀ j, nw_u (nw_u J2 53 n (sp_fare g i)) 26 0 (n + 1) 52 j = if j = n then g (101 + i) else J1 52 j := fun j => by
        rw [nw_uN (by decide), nw_uN (by decide)]
        exact v52 j
      have w53 : ∀ j, nw_u (nw_u J2 53 n (sp_fare g i)) 26 0 (n + 1) 53 j = if j = n then sp_fare g i else J1 53 j := fun j => by
        rw [nw_uN (by decide), nw_u304, hx3 53 (by omega), nw_uP (by decide), nw_uP (by decide)]
        rfl
      refine ih _ (by omega) (i + 1) (n + 1) _ (by omega) (by omega) rfl (fun x w => ?_) nw_uS ?_ ⟨⟨by omega, by omega⟩, fun j a b => ?_, fun j k a b d => ?_, fun p a b h => ?_⟩
      · have wx : ¬ x = 26 ∧ ¬ x = 53 ∧ ¬ x = 30 ∧ ¬ (40 ≤ x ∧ x ≤ 42) := by unfold sp_glF at w; omega
        rw [nw_uP wx.1, nw_uP wx.2.1, hx3 x (by omega)]
        exact hx2 x w
      · rw [nw_uI (by decide), nw_uN (by decide), hx3 26 (by omega), nw_uN (by decide), nw_uN (by decide)]
        exact hroom
      · rw [w27, w52, w53]
        by_cases e : j = n
        · rw [if_pos e, if_pos e, if_pos e]
          exact ⟨i0, by omega, can, rfl, rfl⟩
        · rw [if_neg e, if_neg e, if_neg e]
          have := hl.2.1 j a (by omega)
          exact ⟨this.1, by omega, this.2.2⟩
      · rw [w27, w27, if_neg (by omega)]
        by_cases e : k = n
        · rw [if_pos e]
          exact (hl.2.1 j a (by omega)).2.1
        · rw [if_neg e]
          exact hl.2.2.1 j k a b (by omega)
      · by_cases e : p = i
        · exact ⟨n, by omega, by omega, by rw [w27, if_pos rfl, e]⟩
        · obtain ⟨j, j0, j1, j2⟩ := hl.2.2.2 p a (by omega) h
          exact ⟨j, j0, by omega, by rw [w27, if_neg (by omega)]; exact j2⟩
  refine b_X6_gather_0 hD ⟨by omega, t_X7_weightAboard hR hI hf.1 ?_⟩
  refine b_X6_gather_31 ⟨by omega, ?_⟩
  rw [show J 10 f = g (56 + f) by omega]
  refine lp _ 0 0 _ (by omega) km.1 rfl (fun x w => ?_) nw_uS ?_ ⟨⟨by omega, by omega⟩, fun j a b => by omega, fun j k a b d => by omega, fun p a b => by omega⟩
  · have wx : ¬ x = 26 := by unfold sp_glF at w; omega
    rw [nw_uP wx, nw_uP wx]
  · rw [nw_uI (by decide), nw_uS, fr.2.1]
theorem sp_S_or10 {n a : Int} (hn : 0 ≤ n ∧ n < 1024) (ha : 0 ≤ a ∧ a < 10) : (0 ≤ nw_xior n (nw_xishl 1 a) ∧ nw_xior n (nw_xishl 1 a) < 1024) ∧ ∀ v, sp_S (nw_xior n (nw_xishl 1 a)) v ↔ (sp_S n v ∨ v = a) := by
  obtain ⟨m, rfl⟩ : ∃ m : Nat, n = m := ⟨n.toNat, by omega⟩
  obtain ⟨i, rfl⟩ : ∃ i : Nat, a = i := ⟨a.toNat, by omega⟩
  have pi : 2 ^ i < 1024 := Nat.pow_lt_pow_right (a := 2) (n := 10) (by decide) (by omega)
  have ei : ((2 ^ i : Nat) : Int) = (2 : Int) ^ i := by simp
  have l2 : m ||| 2 ^ i < 2 ^ 10 := Nat.or_lt_two_pow (by omega) pi
  rw [nw_shl1 i (by omega), ← ei, nw_or ⟨by omega, by omega⟩ ⟨Int.natCast_nonneg _, by omega⟩, Int.toNat_natCast, Int.toNat_natCast]
  refine ⟨⟨by omega, by omega⟩, fun v => ?_⟩
  unfold sp_S
  rw [Int.toNat_natCast, Int.toNat_natCast, Nat.testBit_or, Nat.testBit_two_pow, Bool.or_eq_true, decide_eq_true_eq]
  constructor
  · rintro ⟨x, y | y⟩
    · exact Or.inl ⟨x, y⟩
    · exact Or.inr (by omega)
  · rintro (⟨x, y⟩ | y)
    · exact ⟨x, Or.inl y⟩
    · exact ⟨by omega, Or.inr (by omega)⟩
/-- the place of what was gathered i-th; behind the last: m -/
def sp_pc (J : Nat → Int → Int) (n m i : Int) : Int := if i < n then J 27 i else m
/-- what deciding from the i-th on gives -/
noncomputable def sp_DE (g : Int → Int) (f : Int) (J : Nat → Int → Int) (n i r : Int) : Int × (Int → Prop) := sp_E (sp_can g f) (sp_wt g) (sp_fare g) (g 4 - sp_pc J n (g 4) i).toNat (sp_pc J n (g 4) i) r
theorem sp_pc_in {g : Int → Int} {f : Int} {J : Nat → Int → Int} {n i : Int} (hl : sp_gl g f J n (g 4)) (i0 : 0 ≤ i) : sp_pc J n (g 4) i ≤ g 4 ∧ (0 ≤ g 4 → 0 ≤ sp_pc J n (g 4) i) := by
  unfold sp_pc
  split
  · rename_i h
    have := hl.2.1 i i0 h
    exact ⟨by omega, fun _ => this.1⟩
  · exact ⟨Int.le_refl _, fun h => h⟩
theorem sp_DE_next {g : Int → Int} {f : Int} {J : Nat → Int → Int} {n i : Int} (hl : sp_gl g f J n (g 4)) (i0 : 0 ≤ i) (i1 : i < n) (r : Int) : sp_E (sp_can g f) (sp_wt g) (sp_fare g) (g 4 - (J 27 i + 1)).toNat (J 27 i + 1) r = sp_DE g f J n (i + 1) r := by
  have hi := hl.2.1 i i0 i1
  have pn := sp_pc_in hl (i := i + 1) (by omega)
  have lo : J 27 i + 1 ≤ sp_pc J n (g 4) (i + 1) := by
    unfold sp_pc
    split
    · rename_i h
      have := hl.2.2.1 i (i + 1) i0 (by omega) h
      omega
    · omega
  have gap : ∀ x, J 27 i + 1 ≤ x → x < J 27 i + 1 + ((sp_pc J n (g 4) (i + 1) - (J 27 i + 1)).toNat : Nat) → ¬ sp_can g f x := fun x a b hc => by
    obtain ⟨j, j0, j1, j2⟩ := hl.2.2.2 x (by omega) (by omega) hc
    rcases Int.lt_trichotomy j i with q | q | q
    · have := hl.2.2.1 j i j0 q i1
      omega
    · rw [q] at j2
      omega
    · by_cases e : j = i + 1
      · have : sp_pc J n (g 4) (i + 1) = J 27 (i + 1) := if_pos (by omega)
        rw [e] at j2
        omega
      · have h1 := hl.2.2.1 (i + 1) j (by omega) (by omega) j1
        have : sp_pc J n (g 4) (i + 1) = J 27 (i + 1) := if_pos (by omega)
        omega
  have := sp_E_gap (C := sp_can g f) (w := sp_wt g) (v := sp_fare g) (j := (sp_pc J n (g 4) (i + 1) - (J 27 i + 1)).toNat) (k := (g 4 - (J 27 i + 1)).toNat) (p := J 27 i + 1) (r := r) gap (by omega)
  rw [this]
  unfold sp_DE
  congr 1
  · omega
  · omega
theorem sp_DE_take {g : Int → Int} {f : Int} {J : Nat → Int → Int} {n i r : Int} (hl : sp_gl g f J n (g 4)) (i0 : 0 ≤ i) (i1 : i < n) (hw : J 52 i ≤ r) (hv : (sp_DE g f J n (i + 1) r).1 ≤ J 53 i + (sp_DE g f J n (i + 1) (r - J 52 i)).1) : sp_DE g f J n i r = (J 53 i + (sp_DE g f J n (i + 1) (r - J 52 i)).1, fun x => x = J 27 i ∨ (sp_DE g f J n (i + 1) (r - J 52 i)).2 x) := by
  have hi := hl.2.1 i i0 i1
  rw [hi.2.2.2.1] at hw hv ⊢
  rw [hi.2.2.2.2] at hv ⊢
  rw [← sp_DE_next hl i0 i1, ← sp_DE_next hl i0 i1] at hv
  rw [← sp_DE_next hl i0 i1]
  unfold sp_DE
  have e : sp_pc J n (g 4) i = J 27 i := if_pos i1
  rw [e, show (g 4 - J 27 i).toNat = (g 4 - (J 27 i + 1)).toNat + 1 by omega]
  exact sp_E_take ⟨hi.2.2.1, hw, hv⟩
theorem sp_DE_skip {g : Int → Int} {f : Int} {J : Nat → Int → Int} {n i r : Int} (hl : sp_gl g f J n (g 4)) (i0 : 0 ≤ i) (i1 : i < n) (h : ¬ (J 52 i ≤ r ∧ (sp_DE g f J n (i + 1) r).1 ≤ J 53 i + (sp_DE g f J n (i + 1) (r - J 52 i)).1)) : sp_DE g f J n i r = sp_DE g f J n (i + 1) r := by
  have hi := hl.2.1 i i0 i1
  rw [hi.2.2.2.1, hi.2.2.2.2, ← sp_DE_next hl i0 i1, ← sp_DE_next hl i0 i1] at h
  rw [← sp_DE_next hl i0 i1]
  unfold sp_DE
  have e : sp_pc J n (g 4) i = J 27 i := if_pos i1
  rw [e, show (g 4 - J 27 i).toNat = (g 4 - (J 27 i + 1)).toNat + 1 by omega]
  exact sp_E_skip (fun c => h c.2)
theorem sp_DE_end {g : Int → Int} {f : Int} {J : Nat → Int → Int} {n r : Int} : sp_DE g f J n n r = (0, fun _ => False) := by
  have e : sp_pc J n (g 4) n = g 4 := if_neg (by omega)
  unfold sp_DE
  rw [e, show (g 4 - g 4).toNat = 0 by omega]
  rfl
theorem sp_DE_nn {g : Int → Int} {B f : Int} (hI : Inv g B) {J : Nat → Int → Int} {n i r : Int} : 0 ≤ (sp_DE g f J n i r).1 := sp_E_nn (fun x hx => (sp_fare_bd hI ⟨hx.1, hx.2.1⟩).1)
/-- after deciding from the i-th on, with sum s and set t so far -/
def sp_dp (g : Int → Int) (f : Int) (J : Nat → Int → Int) (n i r s t : Int) (J1 J2 : Nat → Int → Int) : Prop :=
  (J1 26 5 < s + (sp_DE g f J n i r).1 ∧ J2 26 5 = s + (sp_DE g f J n i r).1 ∧ (0 ≤ J2 26 1 ∧ J2 26 1 < 1024) ∧ ∀ j, 0 ≤ j → j < n → (sp_S (J2 26 1) j ↔ sp_S t j ∨ (i ≤ j ∧ (sp_DE g f J n i r).2 (J 27 j)))) ∨ (s + (sp_DE g f J n i r).1 ≤ J1 26 5 ∧ J2 26 5 = J1 26 5 ∧ J2 26 1 = J1 26 1)
theorem sp_DE_lo {g : Int → Int} {f : Int} {J : Nat → Int → Int} {n i r j : Int} (hl : sp_gl g f J n (g 4)) (i0 : 0 ≤ i) (i1 : i < n) (j0 : 0 ≤ j) (j1 : j < n) (h : (sp_DE g f J n (i + 1) r).2 (J 27 j)) : i + 1 ≤ j := by
  rw [← sp_DE_next hl i0 i1] at h
  have := (sp_E_in h).1
  by_cases e : i + 1 ≤ j
  · exact e
  · by_cases e2 : j = i
    · rw [e2] at this
      omega
    · have := hl.2.2.1 j i j0 (by omega) i1
      omega
theorem t_X6_decide {sc : Nat × (Nat → Int32)} {J L : Nat → Int → Int} {W : nw_W} {g : Int → Int} {B f n : Int} (hI : Inv g B) (hl : sp_gl g f J n (g 4)) : ∀ (q D : Nat) (i r s t : Int) (J1 : Nat → Int → Int) (c sl : Nat) (Qr : nw_QR) (Qx : nw_QX), 0 ≤ i → i ≤ n → (n - i).toNat = q → q + 1 ≤ D → (0 ≤ r ∧ r ≤ 99) → (0 ≤ s ∧ s ≤ 2880 * i) → (0 ≤ t ∧ t < 1024) → (∀ j, sp_S t j → j < i) → (∀ x, ¬ x = 26 → J1 x = J x) → J1 26 0 = n → (∀ J2, (∀ x, ¬ x = 26 → J2 x = J1 x) → (∀ y, ¬ y = 1 → ¬ y = 5 → J2 26 y = J1 26 y) → sp_dp g f J n i r s t J1 J2 → Qr none (J2, L, W)) → NW sc d_X6_decide D (0, [some (.inr (.inl (some 26))), some (.inl i), some (.inl r), some (.inl s), some (.inl t)], [], (J1, L, W), c, sl) Qr Qx := by
  intro q
  have km := hI.mo
  have nn := hl.1
  induction q with
  | zero =>
    intro D i r s t J1 c sl Qr Qx i0 i1 hq hD hr hs ht htj hx hn hQ
    have e : i = n := by omega
    refine b_X6_decide_0 (E := 0) (by omega) ?_
    rw [hn]
    refine ⟨fun z => by omega, fun _ => ⟨fun z => hQ J1 (fun _ _ => rfl) (fun _ _ _ => rfl) ?_, fun z => hQ _ (fun x y => by rw [nw_uP y, nw_uP y]) (fun y y1 y5 => by rw [nw_uI y1, nw_uI y5]) ?_⟩⟩
    · unfold sp_dp
      rw [e, sp_DE_end]
      exact Or.inr ⟨by dsimp only; omega, rfl, rfl⟩
    · unfold sp_dp
      rw [e, sp_DE_end, nw_uI (by decide), nw_uS, nw_uS]
      refine Or.inl ⟨by dsimp only; omega, by dsimp only; omega, ht, fun j j0 j1 => ⟨Or.inl, fun w => w.elim id (fun w => w.2.elim)⟩⟩
  | succ q ih =>
    intro D i r s t J1 c sl Qr Qx i0 i1 hq hD hr hs ht htj hx hn hQ
    have hin : i < n := by omega
    have hi := hl.2.1 i i0 hin
    have mi := hI.moo (J 27 i) hi.1 hi.2.1
    have fb := sp_fare_bd hI (p := J 27 i) ⟨hi.1, hi.2.1⟩
    have w52 : J1 52 i = J 52 i := by rw [hx 52 (by decide)]
    have w53 : J1 53 i = J 53 i := by rw [hx 53 (by decide)]
    have wt : J 52 i = g (101 + J 27 i) := hi.2.2.2.1
    have wv : J 53 i = sp_fare g (J 27 i) := hi.2.2.2.2
    have inj : ∀ j, 0 ≤ j → j < n → (J 27 j = J 27 i ↔ j = i) := fun j j0 j1 => by
      constructor
      · intro e
        rcases Int.lt_trichotomy j i with z | z | z
        · have := hl.2.2.1 j i j0 z hin
          omega
        · exact z
        · have := hl.2.2.1 i j i0 z j1
          omega
      · intro e
        rw [e]
    refine b_X6_decide_0 (E := q + 1) (by omega) ?_
    rw [hn, w52, w53]
    refine ⟨fun _ => ⟨by omega, fun z => ⟨by omega, ?_⟩, fun z => ⟨by omega, by omega, by omega, ?_⟩⟩, fun z => by omega⟩
    · have e := sp_DE_skip (r := r) hl i0 hin (fun w => by omega)
      refine ih (q + 1) (i + 1) r s t J1 0 0 _ _ (by omega) (by omega) (by omega) (by omega) hr ⟨hs.1, by omega⟩ ht (fun j w => by have := htj j w; omega) hx hn (fun J2 h1 h2 h3 => b_X6_decide_78 (hQ J2 h1 h2 ?_))
      unfold sp_dp at h3 ⊢
      rw [e]
      rcases h3 with ⟨a1, a2, a3, a4⟩ | h3
      · refine Or.inl ⟨a1, a2, a3, fun j j0 j1 => (a4 j j0 j1).trans ⟨fun w => w.imp id (fun w => ⟨by omega, w.2⟩), fun w => w.imp id (fun w => ⟨sp_DE_lo hl i0 hin j0 j1 w.2, w.2⟩)⟩⟩
      · exact Or.inr h3
    · have so := sp_S_or10 ht (a := i) ⟨i0, by omega⟩
      refine ih (q + 1) (i + 1) (r - J 52 i) (s + J 53 i) _ J1 0 0 _ _ (by omega) (by omega) (by omega) (by omega) ⟨by omega, by omega⟩ ⟨by omega, by omega⟩ so.1 (fun j w => ?_) hx hn (fun J2 h1 h2 h3 => b_X6_decide_67 (E := q + 1) (by omega) ⟨by omega, ?_⟩)
      · rcases (so.2 j).mp w with w | w
        · have := htj j w
          omega
        · omega
      refine ih (q + 1) (i + 1) r s t J2 0 0 _ _ (by omega) (by omega) (by omega) (by omega) hr ⟨hs.1, by omega⟩ ht (fun j w => by have := htj j w; omega) (fun x y => (h1 x y).trans (hx x y)) (by rw [h2 0 (by decide) (by decide)]; exact hn) (fun J3 k1 k2 k3 => b_X6_decide_78 (hQ J3 (fun x y => (k1 x y).trans (h1 x y)) (fun y y1 y5 => (k2 y y1 y5).trans (h2 y y1 y5)) ?_))
      unfold sp_dp at h3 k3 ⊢
      by_cases cs : (sp_DE g f J n (i + 1) r).1 ≤ J 53 i + (sp_DE g f J n (i + 1) (r - J 52 i)).1
      · rw [sp_DE_take hl i0 hin z cs]
        dsimp only
        rcases h3 with ⟨a1, a2, a3, a4⟩ | ⟨a1, a2, a3⟩
        · rcases k3 with ⟨b1, b2, b3, b4⟩ | ⟨b1, b2, b3⟩
          · omega
          · rw [b2, b3]
            refine Or.inl ⟨by omega, by omega, a3, fun j j0 j1 => ?_⟩
            rw [a4 j j0 j1, so.2 j]
            constructor
            · rintro ((w | w) | w)
              · exact Or.inl w
              · exact Or.inr ⟨by omega, Or.inl (by rw [w])⟩
              · exact Or.inr ⟨by omega, Or.inr w.2⟩
            · rintro (w | ⟨w1, w | w⟩)
              · exact Or.inl (Or.inl w)
              · exact Or.inl (Or.inr ((inj j j0 j1).mp w))
              · exact Or.inr ⟨sp_DE_lo hl i0 hin j0 j1 w, w⟩
        · rcases k3 with ⟨b1, b2, b3, b4⟩ | ⟨b1, b2, b3⟩
          · omega
          · exact Or.inr ⟨by omega, by omega, b3.trans a3⟩
      · rw [sp_DE_skip hl i0 hin (fun w => cs w.2)]
        rcases k3 with ⟨b1, b2, b3, b4⟩ | ⟨b1, b2, b3⟩
        · refine Or.inl ⟨by omega, b2, b3, fun j j0 j1 => (b4 j j0 j1).trans ⟨fun w => w.imp id (fun w => ⟨by omega, w.2⟩), fun w => w.imp id (fun w => ⟨sp_DE_lo hl i0 hin j0 j1 w.2, w.2⟩)⟩⟩
        · rcases h3 with ⟨a1, a2, a3, a4⟩ | ⟨a1, a2, a3⟩
          · omega
          · exact Or.inr ⟨by omega, by omega, b3.trans a3⟩
theorem sp_DE_0 {g : Int → Int} {f : Int} {J : Nat → Int → Int} {n r : Int} (hl : sp_gl g f J n (g 4)) (h4 : 0 ≤ g 4) : sp_DE g f J n 0 r = sp_E (sp_can g f) (sp_wt g) (sp_fare g) (g 4).toNat 0 r := by
  have pc := sp_pc_in hl (i := 0) (Int.le_refl _)
  have p0 := pc.2 h4
  have gap : ∀ x : Int, 0 ≤ x → x < 0 + ((sp_pc J n (g 4) 0).toNat : Nat) → ¬ sp_can g f x := fun x a b hc => by
    obtain ⟨j, j0, j1, j2⟩ := hl.2.2.2 x a (by omega) hc
    have e : sp_pc J n (g 4) 0 = J 27 0 := if_pos (by omega)
    by_cases z : j = 0
    · rw [z] at j2
      omega
    · have := hl.2.2.1 0 j (by omega) (by omega) j1
      omega
  have := sp_E_gap (C := sp_can g f) (w := sp_wt g) (v := sp_fare g) (j := (sp_pc J n (g 4) 0).toNat) (k := (g 4).toNat) (p := 0) (r := r) gap (by omega)
  rw [this]
  unfold sp_DE
  congr 1
  · omega
  · omega
theorem t_X6_sumByDeciding {f n : Int} (hI : Inv g B) (hf : 0 ≤ f ∧ f < g 3) (hn : J 26 0 = n) (hroom : J 26 4 = g (68 + f) - sp_car g f) (hl : sp_gl g f J n (g 4)) (hD : 13 ≤ D) (hQ : ∀ J', (∀ x, ¬ x = 26 → J' x = J x) → (∀ y, ¬ y = 1 → ¬ y = 5 → J' 26 y = J 26 y) → (0 ≤ J' 26 1 ∧ J' 26 1 < 1024) → (∀ j, 0 ≤ j → j < n → (sp_S (J' 26 1) j ↔ (sp_best g f).2 (J 27 j))) → Qr (some (.inl (sp_best g f).1)) (J', L, W)) : NW sc d_X6_sumByDeciding D (0, [some (.inr (.inl (some 26)))], [], (J, L, W), c, sl) Qr Qx := by
  have km := hI.mo
  have kf := hI.fe
  have fi := hI.fer f hf.1 hf.2
  have ca := hI.car f hf.1 hf.2
  have cb := sp_car_bd (f := f) hI
  have nn := hl.1
  have eB : sp_DE g f J n 0 (g (68 + f) - sp_car g f) = sp_best g f := sp_DE_0 hl km.1
  have z0 : ∀ j, ¬ sp_S 0 j := fun j => sp_S_0
  refine b_X6_sumByDeciding_0 hD ?_
  rw [hroom]
  refine t_X6_decide (J := J) hI hl n.toNat 12 0 _ 0 0 _ 0 0 _ _ (by omega) (by omega) (by omega) (by omega) ⟨by omega, by omega⟩ ⟨by omega, by omega⟩ ⟨by decide, by decide⟩ (fun j w => absurd w (z0 j)) (fun x y => by rw [nw_uP y, nw_uP y]) (by rw [nw_uI (by decide), nw_uI (by decide)]; exact hn) (fun J2 h1 h2 h3 => b_X6_sumByDeciding_21 ?_)
  have nnE := sp_DE_nn (f := f) hI (J := J) (n := n) (i := 0) (r := g (68 + f) - sp_car g f)
  unfold sp_dp at h3
  rw [nw_uI (by decide), nw_uS] at h3
  rcases h3 with ⟨a1, a2, a3, a4⟩ | ⟨a1, a2, a3⟩
  · rw [a2, eB, Int.zero_add]
    refine hQ J2 (fun x y => by rw [h1 x y, nw_uP y, nw_uP y]) (fun y y1 y5 => by rw [h2 y y1 y5, nw_uI y1, nw_uI y5]) a3 (fun j j0 j1 => ?_)
    rw [a4 j j0 j1, eB]
    exact ⟨fun w => w.elim (fun w => absurd w (z0 j)) (fun w => w.2), fun w => Or.inr ⟨j0, w⟩⟩
  · omega
end

