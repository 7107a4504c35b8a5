/-! what the cells mean -/
/-- the first place below n with P, or -1 -/
def sp_first (P : Int → Prop) (n r : Int) : Prop := (r = -1 ∧ ∀ i, 0 ≤ i → i < n → ¬ P i) ∨ (0 ≤ r ∧ r < n ∧ P r ∧ ∀ i, 0 ≤ i → i < r → ¬ P i)
theorem sp_first_uniq {P : Int → Prop} {n r s : Int} (h : sp_first P n r) (k : sp_first P n s) : r = s := by
  rcases h with ⟨rfl, h⟩ | ⟨h0, h1, h2, h3⟩
  · rcases k with ⟨rfl, k⟩ | ⟨k0, k1, k2, k3⟩
    · rfl
    · exact absurd k2 (h _ k0 k1)
  · rcases k with ⟨rfl, k⟩ | ⟨k0, k1, k2, k3⟩
    · exact absurd h2 (k _ h0 h1)
    · rcases Int.lt_trichotomy r s with q | q | q
      · exact absurd h2 (k3 _ h0 q)
      · exact q
      · exact absurd k2 (h3 _ k0 q)
theorem sp_first_rng {P : Int → Prop} {n r : Int} (h : sp_first P n r) : r = -1 ∨ (0 ≤ r ∧ r < n ∧ P r) := by
  rcases h with ⟨h, _⟩ | ⟨h0, h1, h2, _⟩
  · exact Or.inl h
  · exact Or.inr ⟨h0, h1, h2⟩
theorem sp_first_congr {P Q : Int → Prop} {n r : Int} (e : ∀ i, 0 ≤ i → i < n → (P i ↔ Q i)) (h : sp_first P n r) : sp_first Q n r := by
  rcases h with ⟨h, k⟩ | ⟨h0, h1, h2, h3⟩
  · exact Or.inl ⟨h, fun i a b => (not_congr (e i a b)).mp (k i a b)⟩
  · exact Or.inr ⟨h0, h1, (e r h0 h1).mp h2, fun i a b => (not_congr (e i a (by omega))).mp (h3 i a b)⟩
/-- a sum over 0, 1 .. n - 1 -/
def sp_sum (f : Int → Int) : Nat → Int
  | 0 => 0
  | n + 1 => sp_sum f n + f n
theorem sp_sum_congr {f h : Int → Int} : ∀ {n : Nat}, (∀ i : Int, 0 ≤ i → i < n → f i = h i) → sp_sum f n = sp_sum h n
  | 0, _ => rfl
  | n + 1, e => by
    rw [sp_sum, sp_sum, sp_sum_congr (n := n) (fun i a b => e i a (by omega)), e n (by omega) (by omega)]
theorem sp_sum_bd {f : Int → Int} {b : Int} : ∀ {n : Nat}, (∀ i : Int, 0 ≤ i → i < n → 0 ≤ f i ∧ f i ≤ b) → 0 ≤ sp_sum f n ∧ sp_sum f n ≤ n * b
  | 0, _ => by simp [sp_sum]
  | n + 1, e => by
    have h1 := sp_sum_bd (n := n) (fun i a b => e i a (by omega))
    have h2 := e n (by omega) (by omega)
    rw [sp_sum]
    have h3 : ((n + 1 : Nat) : Int) * b = n * b + b := by rw [Int.natCast_add, Int.add_mul]; simp
    rw [h3]
    omega
theorem sp_sum_step {f : Int → Int} {i : Int} (h : 0 ≤ i) : sp_sum f (i + 1).toNat = sp_sum f i.toNat + f i := by
  have e : (i + 1).toNat = i.toNat + 1 := by omega
  rw [e, sp_sum, Int.toNat_of_nonneg h]
theorem sp_sum_zero {f : Int → Int} : sp_sum f (0 : Int).toNat = 0 := rfl
/-- the tide -/
def sp_tide (h : Int) : Int := if h % 12 ≤ 6 then h % 12 else 12 - h % 12
theorem sp_tide_rng (h : Int) : 0 ≤ sp_tide h ∧ sp_tide h ≤ 6 := by
  unfold sp_tide
  split <;> omega
/-- the weight aboard a ferry -/
def sp_w (g : Int → Int) (f p : Int) : Int := if g (121 + p) = 10 + f then g (101 + p) else 0
def sp_car (g : Int → Int) (f : Int) : Int := sp_sum (sp_w g f) (g 4).toNat
/-- channel c lies between a and b -/
def sp_con (g : Int → Int) (a b c : Int) : Prop := (g (16 + c) = a ∧ g (26 + c) = b) ∨ (g (16 + c) = b ∧ g (26 + c) = a)
/-- the channel between a and b, or -1 -/
def sp_btw (g : Int → Int) (a b r : Int) : Prop := sp_first (sp_con g a b) (g 2) r
def sp_plc (g : Int → Int) (m r : Int) : Prop := sp_first (fun p => g (71 + p) = m) (g 4) r
/-- ferry f is at sea between a and b -/
def sp_psg (g : Int → Int) (a b f : Int) : Prop := 0 < g (62 + f) ∧ ((g (59 + f) = a ∧ g (56 + f) = b) ∨ (g (59 + f) = b ∧ g (56 + f) = a))
/-- a place dropped out of rows of ten from s0 on, m of them -/
def sp_drp (g : Int → Int) (s0 m pl s : Int) : Int := if s0 ≤ s ∧ s < s0 + 10 * m ∧ pl ≤ (s - s0) % 10 ∧ (s - s0) % 10 < 9 then g (s + 1) else g s
def sp_sea (g : Int → Int) (f : Int) : Prop := 0 < g (62 + f)
def sp_low (g : Int → Int) (f c h : Int) : Prop := g (10 + c) + sp_tide h < g (65 + f)
def sp_opn (g : Int → Int) (f c h : Int) : Prop := g (65 + f) ≤ g (46 + c) + sp_tide h
def sp_stk (g : Int → Int) (f : Int) : Prop := ¬ sp_sea g f ∧ sp_low g f (g (56 + f)) (g 0)
/-- what holds of the numbers g at every call; B bounds what counts on -/
def Inv (g : Int → Int) (B : Int) : Prop :=
  (0 ≤ B ∧ B ≤ 4000000) ∧
  (0 ≤ g 0 ∧ g 0 ≤ B) ∧
  (0 ≤ g 1 ∧ g 1 ≤ 6) ∧
  (0 ≤ g 2 ∧ g 2 ≤ 10) ∧
  (0 ≤ g 3 ∧ g 3 ≤ 3) ∧
  (0 ≤ g 4 ∧ g 4 ≤ 10) ∧
  (0 ≤ g 5 ∧ g 5 ≤ B) ∧
  (0 ≤ g 6 ∧ g 6 ≤ B) ∧
  (0 ≤ g 7 ∧ g 7 ≤ B) ∧
  (0 ≤ g 8 ∧ g 8 ≤ B) ∧
  (0 ≤ g 9 ∧ g 9 ≤ B) ∧
  (∀ i, 0 ≤ i → i < g 1 → 0 ≤ g (10 + i) ∧ g (10 + i) ≤ 9) ∧
  (∀ i, 0 ≤ i → i < g 2 → 0 ≤ g (16 + i) ∧ g (16 + i) < g 1 ∧ 0 ≤ g (26 + i) ∧ g (26 + i) < g 1 ∧ ¬ g (16 + i) = g (26 + i) ∧ 1 ≤ g (36 + i) ∧ g (36 + i) ≤ 9 ∧ 0 ≤ g (46 + i) ∧ g (46 + i) ≤ 9) ∧
  (∀ i j, 0 ≤ i → i < j → j < g 2 → ¬ sp_con g (g (16 + i)) (g (26 + i)) j) ∧
  (∀ f, 0 ≤ f → f < g 3 → 0 ≤ g (56 + f) ∧ g (56 + f) < g 1 ∧ 1 ≤ g (65 + f) ∧ g (65 + f) ≤ 12 ∧ 1 ≤ g (68 + f) ∧ g (68 + f) ≤ 99 ∧ (g (62 + f) = 0 ∨ (g 0 < g (62 + f) ∧ g (62 + f) ≤ g 0 + 9 ∧ 0 ≤ g (59 + f) ∧ g (59 + f) < g 1))) ∧
  (∀ p, 0 ≤ p → p < g 4 → 0 ≤ g (71 + p) ∧ g (71 + p) < g 5 ∧ 0 ≤ g (81 + p) ∧ g (81 + p) < g 1 ∧ 0 ≤ g (91 + p) ∧ g (91 + p) < g 1 ∧ 1 ≤ g (101 + p) ∧ g (101 + p) ≤ 40 ∧ 0 ≤ g (111 + p) ∧ g (111 + p) ≤ 7 ∧ ((0 ≤ g (121 + p) ∧ g (121 + p) < g 1) ∨ (10 ≤ g (121 + p) ∧ g (121 + p) < 10 + g 3))) ∧
  (∀ f, 0 ≤ f → f < g 3 → sp_car g f ≤ g (68 + f))
theorem Inv.bd {g : Int → Int} {B : Int} (h : Inv g B) : 0 ≤ B ∧ B ≤ 4000000 := h.1
theorem Inv.ho {g : Int → Int} {B : Int} (h : Inv g B) : 0 ≤ g 0 ∧ g 0 ≤ B := h.2.1
theorem Inv.cr {g : Int → Int} {B : Int} (h : Inv g B) : 0 ≤ g 1 ∧ g 1 ≤ 6 := h.2.2.1
theorem Inv.ch {g : Int → Int} {B : Int} (h : Inv g B) : 0 ≤ g 2 ∧ g 2 ≤ 10 := h.2.2.2.1
theorem Inv.fe {g : Int → Int} {B : Int} (h : Inv g B) : 0 ≤ g 3 ∧ g 3 ≤ 3 := h.2.2.2.2.1
theorem Inv.mo {g : Int → Int} {B : Int} (h : Inv g B) : 0 ≤ g 4 ∧ g 4 ≤ 10 := h.2.2.2.2.2.1
theorem Inv.nx {g : Int → Int} {B : Int} (h : Inv g B) : 0 ≤ g 5 ∧ g 5 ≤ B := h.2.2.2.2.2.2.1
theorem Inv.fa {g : Int → Int} {B : Int} (h : Inv g B) : 0 ≤ g 6 ∧ g 6 ≤ B := h.2.2.2.2.2.2.2.1
theorem Inv.re {g : Int → Int} {B : Int} (h : Inv g B) : 0 ≤ g 7 ∧ g 7 ≤ B := h.2.2.2.2.2.2.2.2.1
theorem Inv.pa {g : Int → Int} {B : Int} (h : Inv g B) : 0 ≤ g 8 ∧ g 8 ≤ B := h.2.2.2.2.2.2.2.2.2.1
theorem Inv.sn {g : Int → Int} {B : Int} (h : Inv g B) : 0 ≤ g 9 ∧ g 9 ≤ B := h.2.2.2.2.2.2.2.2.2.2.1
theorem Inv.dep {g : Int → Int} {B : Int} (h : Inv g B) : ∀ i, 0 ≤ i → i < g 1 → 0 ≤ g (10 + i) ∧ g (10 + i) ≤ 9 := h.2.2.2.2.2.2.2.2.2.2.2.1
theorem Inv.cha {g : Int → Int} {B : Int} (h : Inv g B) : ∀ i, 0 ≤ i → i < g 2 → 0 ≤ g (16 + i) ∧ g (16 + i) < g 1 ∧ 0 ≤ g (26 + i) ∧ g (26 + i) < g 1 ∧ ¬ g (16 + i) = g (26 + i) ∧ 1 ≤ g (36 + i) ∧ g (36 + i) ≤ 9 ∧ 0 ≤ g (46 + i) ∧ g (46 + i) ≤ 9 := h.2.2.2.2.2.2.2.2.2.2.2.2.1
theorem Inv.uni {g : Int → Int} {B : Int} (h : Inv g B) : ∀ i j, 0 ≤ i → i < j → j < g 2 → ¬ sp_con g (g (16 + i)) (g (26 + i)) j := h.2.2.2.2.2.2.2.2.2.2.2.2.2.1
theorem Inv.fer {g : Int → Int} {B : Int} (h : Inv g B) : ∀ f, 0 ≤ f → f < g 3 → 0 ≤ g (56 + f) ∧ g (56 + f) < g 1 ∧ 1 ≤ g (65 + f) ∧ g (65 + f) ≤ 12 ∧ 1 ≤ g (68 + f) ∧ g (68 + f) ≤ 99 ∧ (g (62 + f) = 0 ∨ (g 0 < g (62 + f) ∧ g (62 + f) ≤ g 0 + 9 ∧ 0 ≤ g (59 + f) ∧ g (59 + f) < g 1)) := h.2.2.2.2.2.2.2.2.2.2.2.2.2.2.1
theorem Inv.moo {g : Int → Int} {B : Int} (h : Inv g B) : ∀ p, 0 ≤ p → p < g 4 → 0 ≤ g (71 + p) ∧ g (71 + p) < g 5 ∧ 0 ≤ g (81 + p) ∧ g (81 + p) < g 1 ∧ 0 ≤ g (91 + p) ∧ g (91 + p) < g 1 ∧ 1 ≤ g (101 + p) ∧ g (101 + p) ≤ 40 ∧ 0 ≤ g (111 + p) ∧ g (111 + p) ≤ 7 ∧ ((0 ≤ g (121 + p) ∧ g (121 + p) < g 1) ∨ (10 ≤ g (121 + p) ∧ g (121 + p) < 10 + g 3)) := h.2.2.2.2.2.2.2.2.2.2.2.2.2.2.2.1
theorem Inv.car {g : Int → Int} {B : Int} (h : Inv g B) : ∀ f, 0 ≤ f → f < g 3 → sp_car g f ≤ g (68 + f) := h.2.2.2.2.2.2.2.2.2.2.2.2.2.2.2.2
/-- the state object at place 2 holds the numbers g -/
def RC (J L : Nat → Int → Int) (g : Int → Int) : Prop :=
  (J 2 3 = g 0) ∧
  (J 2 4 = g 6) ∧
  (L 2 5 = g 6 - 5 * g 7) ∧
  (J 3 0 = g 1) ∧
  (J 3 1 = g 2) ∧
  (∀ i, 0 ≤ i → i < g 1 → J 4 i = g (10 + i)) ∧
  (∀ i, 0 ≤ i → i < g 2 → J 5 i = g (16 + i) ∧ J 6 i = g (26 + i) ∧ J 7 i = g (36 + i) ∧ J 8 i = g (46 + i)) ∧
  (J 9 0 = g 3) ∧
  (∀ f, 0 ≤ f → f < g 3 → J 13 f = g (65 + f) ∧ J 14 f = g (68 + f) ∧ ((g (62 + f) = 0 ∧ J 11 f = -1 ∧ J 10 f = g (56 + f)) ∨ (0 < g (62 + f) ∧ J 11 f = g (56 + f) ∧ J 10 f = g (59 + f) ∧ J 12 f = g (62 + f)))) ∧
  (J 9 6 = g 8) ∧
  (J 9 7 = g 9) ∧
  (∀ r, 0 ≤ r → r < 10 → r < g 8 → J 15 ((g 8 - 1 - r) % 10) = g (131 + r) ∧ J 16 ((g 8 - 1 - r) % 10) = g (141 + r) ∧ J 17 ((g 8 - 1 - r) % 10) = g (151 + r)) ∧
  (J 18 0 = g 4) ∧
  (J 18 1 = g 5) ∧
  (∀ p, 0 ≤ p → p < g 4 → J 19 p = g (71 + p) ∧ J 20 p = g (81 + p) ∧ J 21 p = g (91 + p) ∧ J 22 p = g (101 + p) ∧ J 23 p = g (111 + p) ∧ ((g (121 + p) < 10 ∧ J 24 p = -1 ∧ J 25 p = g (121 + p)) ∨ (10 ≤ g (121 + p) ∧ J 24 p = g (121 + p) - 10 ∧ J 25 p = -1)))
theorem RC.ho {J L : Nat → Int → Int} {g : Int → Int} (h : RC J L g) : J 2 3 = g 0 := h.1
theorem RC.fa {J L : Nat → Int → Int} {g : Int → Int} (h : RC J L g) : J 2 4 = g 6 := h.2.1
theorem RC.pu {J L : Nat → Int → Int} {g : Int → Int} (h : RC J L g) : L 2 5 = g 6 - 5 * g 7 := h.2.2.1
theorem RC.cr {J L : Nat → Int → Int} {g : Int → Int} (h : RC J L g) : J 3 0 = g 1 := h.2.2.2.1
theorem RC.ch {J L : Nat → Int → Int} {g : Int → Int} (h : RC J L g) : J 3 1 = g 2 := h.2.2.2.2.1
theorem RC.dep {J L : Nat → Int → Int} {g : Int → Int} (h : RC J L g) : ∀ i, 0 ≤ i → i < g 1 → J 4 i = g (10 + i) := h.2.2.2.2.2.1
theorem RC.cha {J L : Nat → Int → Int} {g : Int → Int} (h : RC J L g) : ∀ i, 0 ≤ i → i < g 2 → J 5 i = g (16 + i) ∧ J 6 i = g (26 + i) ∧ J 7 i = g (36 + i) ∧ J 8 i = g (46 + i) := h.2.2.2.2.2.2.1
theorem RC.fe {J L : Nat → Int → Int} {g : Int → Int} (h : RC J L g) : J 9 0 = g 3 := h.2.2.2.2.2.2.2.1
theorem RC.fer {J L : Nat → Int → Int} {g : Int → Int} (h : RC J L g) : ∀ f, 0 ≤ f → f < g 3 → J 13 f = g (65 + f) ∧ J 14 f = g (68 + f) ∧ ((g (62 + f) = 0 ∧ J 11 f = -1 ∧ J 10 f = g (56 + f)) ∨ (0 < g (62 + f) ∧ J 11 f = g (56 + f) ∧ J 10 f = g (59 + f) ∧ J 12 f = g (62 + f))) := h.2.2.2.2.2.2.2.2.1
theorem RC.pa {J L : Nat → Int → Int} {g : Int → Int} (h : RC J L g) : J 9 6 = g 8 := h.2.2.2.2.2.2.2.2.2.1
theorem RC.sn {J L : Nat → Int → Int} {g : Int → Int} (h : RC J L g) : J 9 7 = g 9 := h.2.2.2.2.2.2.2.2.2.2.1
theorem RC.kep {J L : Nat → Int → Int} {g : Int → Int} (h : RC J L g) : ∀ r, 0 ≤ r → r < 10 → r < g 8 → J 15 ((g 8 - 1 - r) % 10) = g (131 + r) ∧ J 16 ((g 8 - 1 - r) % 10) = g (141 + r) ∧ J 17 ((g 8 - 1 - r) % 10) = g (151 + r) := h.2.2.2.2.2.2.2.2.2.2.2.1
theorem RC.mo {J L : Nat → Int → Int} {g : Int → Int} (h : RC J L g) : J 18 0 = g 4 := h.2.2.2.2.2.2.2.2.2.2.2.2.1
theorem RC.nx {J L : Nat → Int → Int} {g : Int → Int} (h : RC J L g) : J 18 1 = g 5 := h.2.2.2.2.2.2.2.2.2.2.2.2.2.1
theorem RC.moo {J L : Nat → Int → Int} {g : Int → Int} (h : RC J L g) : ∀ p, 0 ≤ p → p < g 4 → J 19 p = g (71 + p) ∧ J 20 p = g (81 + p) ∧ J 21 p = g (91 + p) ∧ J 22 p = g (101 + p) ∧ J 23 p = g (111 + p) ∧ ((g (121 + p) < 10 ∧ J 24 p = -1 ∧ J 25 p = g (121 + p)) ∨ (10 ≤ g (121 + p) ∧ J 24 p = g (121 + p) - 10 ∧ J 25 p = -1)) := h.2.2.2.2.2.2.2.2.2.2.2.2.2.2
theorem sp_w_bd {g : Int → Int} {B f : Int} (hI : Inv g B) (j : Int) (h0 : 0 ≤ j) (h1 : j < g 4) : 0 ≤ sp_w g f j ∧ sp_w g f j ≤ 40 := by
  have := hI.moo j h0 h1
  unfold sp_w
  split <;> omega
theorem sp_car_bd {g : Int → Int} {B f : Int} (hI : Inv g B) : 0 ≤ sp_car g f ∧ sp_car g f ≤ 400 := by
  have h := hI.mo
  have := sp_sum_bd (f := sp_w g f) (b := 40) (n := (g 4).toNat) (fun j a b => sp_w_bd hI j a (by omega))
  unfold sp_car
  omega
