/-! what the cells mean -/
/-- the first place below n with P, or -1 -/
def sp_first (P : Int → Prop) (n r : Int) : Prop := (r = -1 ∧ ∀ i, 0 ≤ i → i < n → ¬ P i) ∨ (0 ≤ r ∧ r < n ∧ P r ∧ ∀ i, 0 ≤ i → i < r → ¬ P i)
theorem sp_first_uniq {P : Int → Prop} {n r s : Int} (h : sp_first P n r) (k : sp_first P n s) : r = s := by
  rcases h with ⟨rfl, h⟩ | ⟨h0, h1, h2, h3⟩
  · rcases k with ⟨rfl, k⟩ | ⟨k0, k1, k2, k3⟩
    · rfl
    · exact absurd k2 (h _ k0 k1)
  · rcases k with ⟨rfl, k⟩ | ⟨k0, k1, k2, k3⟩
    · exact absurd h2 (k _ h0 h1)
    · rcases Int.lt_trichotomy r s with q | q | q
      · exact absurd h2 (k3 _ h0 q)
      · exact q
      · exact absurd k2 (h3 _ k0 q)
theorem sp_first_rng {P : Int → Prop} {n r : Int} (h : sp_first P n r) : r = -1 ∨ (0 ≤ r ∧ r < n ∧ P r) := by
  rcases h with ⟨h, _⟩ | ⟨h0, h1, h2, _⟩
  · exact Or.inl h
  · exact Or.inr ⟨h0, h1, h2⟩
theorem sp_first_congr {P Q : Int → Prop} {n r : Int} (e : ∀ i, 0 ≤ i → i < n → (P i ↔ Q i)) (h : sp_first P n r) : sp_first Q n r := by
  rcases h with ⟨h, k⟩ | ⟨h0, h1, h2, h3⟩
  · exact Or.inl ⟨h, fun i a b => (not_congr (e i a b)).mp (k i a b)⟩
  · exact Or.inr ⟨h0, h1, (e r h0 h1).mp h2, fun i a b => (not_congr (e i a (by omega))).mp (h3 i a b)⟩
/-- a sum over 0, 1 .. n - 1 -/
def sp_sum (f : Int → Int) : Nat → Int
  | 0 => 0
  | n + 1 => sp_sum f n + f n
theorem sp_sum_congr {f h : Int → Int} : ∀ {n : Nat}, (∀ i : Int, 0 ≤ i → i < n → f i = h i) → sp_sum f n = sp_sum h n
  | 0, _ => rfl
  | n + 1, e => by
    rw [sp_sum, sp_sum, sp_sum_congr (n := n) (fun i a b => e i a (by omega)), e n (by omega) (by omega)]
theorem sp_sum_bd {f : Int → Int} {b : Int} : ∀ {n : Nat}, (∀ i : Int, 0 ≤ i → i < n → 0 ≤ f i ∧ f i ≤ b) → 0 ≤ sp_sum f n ∧ sp_sum f n ≤ n * b
  | 0, _ => by simp [sp_sum]
  | n + 1, e => by
    have h1 := sp_sum_bd (n := n) (fun i a b => e i a (by omega))
    have h2 := e n (by omega) (by omega)
    rw [sp_sum]
    have h3 : ((n + 1 : Nat) : Int) * b = n * b + b := by rw [Int.natCast_add, Int.add_mul]; simp
    rw [h3]
    omega
theorem sp_sum_step {f : Int → Int} {i : Int} (h : 0 ≤ i) : sp_sum f (i + 1).toNat = sp_sum f i.toNat + f i := by
  have e : (i + 1).toNat = i.toNat + 1 := by omega
  rw [e, sp_sum, Int.toNat_of_nonneg h]
theorem sp_sum_zero {f : Int → Int} : sp_sum f (0 : Int).toNat = 0 := rfl
/-- the tide -/
def sp_tide (h : Int) : Int := if h % 12 ≤ 6 then h % 12 else 12 - h % 12
theorem sp_tide_rng (h : Int) : 0 ≤ sp_tide h ∧ sp_tide h ≤ 6 := by
  unfold sp_tide
  split <;> omega
/-- the weight aboard a ferry -/
def sp_w (g : Int → Int) (f p : Int) : Int := if g (121 + p) = 10 + f then g (101 + p) else 0
def sp_car (g : Int → Int) (f : Int) : Int := sp_sum (sp_w g f) (g 4).toNat
/-- channel c lies between a and b -/
def sp_con (g : Int → Int) (a b c : Int) : Prop := (g (16 + c) = a ∧ g (26 + c) = b) ∨ (g (16 + c) = b ∧ g (26 + c) = a)
/-- the channel between a and b, or -1 -/
def sp_btw (g : Int → Int) (a b r : Int) : Prop := sp_first (sp_con g a b) (g 2) r
def sp_plc (g : Int → Int) (m r : Int) : Prop := sp_first (fun p => g (71 + p) = m) (g 4) r
/-- ferry f is at sea between a and b -/
def sp_psg (g : Int → Int) (a b f : Int) : Prop := 0 < g (62 + f) ∧ ((g (59 + f) = a ∧ g (56 + f) = b) ∨ (g (59 + f) = b ∧ g (56 + f) = a))
/-- a place dropped out of rows of ten from s0 on, m of them -/
def sp_drp (g : Int → Int) (s0 m pl s : Int) : Int := if s0 ≤ s ∧ s < s0 + 10 * m ∧ pl ≤ (s - s0) % 10 ∧ (s - s0) % 10 < 9 then g (s + 1) else g s
def sp_sea (g : Int → Int) (f : Int) : Prop := 0 < g (62 + f)
def sp_low (g : Int → Int) (f c h : Int) : Prop := g (10 + c) + sp_tide h < g (65 + f)
def sp_opn (g : Int → Int) (f c h : Int) : Prop := g (65 + f) ≤ g (46 + c) + sp_tide h
def sp_stk (g : Int → Int) (f : Int) : Prop := ¬ sp_sea g f ∧ sp_low g f (g (56 + f)) (g 0)
/-- what holds of the numbers g at every call; B bounds what counts on -/
def Inv (g : Int → Int) (B : Int) : Prop :=
  (0 ≤ B ∧ B ≤ 4000000) ∧
  (0 ≤ g 0 ∧ g 0 ≤ B) ∧
  (0 ≤ g 1 ∧ g 1 ≤ 6) ∧
  (0 ≤ g 2 ∧ g 2 ≤ 10) ∧
  (0 ≤ g 3 ∧ g 3 ≤ 3) ∧
  (0 ≤ g 4 ∧ g 4 ≤ 10) ∧
  (0 ≤ g 5 ∧ 20 * g 5 ≤ B) ∧
  (0 ≤ g 6 ∧ g 6 ≤ 20 * B) ∧
  (0 ≤ g 7 ∧ g 7 ≤ B) ∧
  (0 ≤ g 8 ∧ g 8 ≤ B) ∧
  (0 ≤ g 9 ∧ g 9 ≤ B) ∧
  (∀ i, 0 ≤ i → i < g 1 → 0 ≤ g (10 + i) ∧ g (10 + i) ≤ 9) ∧
  (∀ i, 0 ≤ i → i < g 2 → 0 ≤ g (16 + i) ∧ g (16 + i) < g 1 ∧ 0 ≤ g (26 + i) ∧ g (26 + i) < g 1 ∧ ¬ g (16 + i) = g (26 + i) ∧ 1 ≤ g (36 + i) ∧ g (36 + i) ≤ 9 ∧ 0 ≤ g (46 + i) ∧ g (46 + i) ≤ 9) ∧
  (∀ i j, 0 ≤ i → i < j → j < g 2 → ¬ sp_con g (g (16 + i)) (g (26 + i)) j) ∧
  (∀ f, 0 ≤ f → f < g 3 → 0 ≤ g (56 + f) ∧ g (56 + f) < g 1 ∧ 1 ≤ g (65 + f) ∧ g (65 + f) ≤ 12 ∧ 1 ≤ g (68 + f) ∧ g (68 + f) ≤ 99 ∧ (g (62 + f) = 0 ∨ (g 0 ≤ g (62 + f) ∧ 1 ≤ g (62 + f) ∧ g (62 + f) ≤ g 0 + 9 ∧ 0 ≤ g (59 + f) ∧ g (59 + f) < g 1))) ∧
  (∀ p, 0 ≤ p → p < g 4 → 0 ≤ g (71 + p) ∧ g (71 + p) < g 5 ∧ 0 ≤ g (81 + p) ∧ g (81 + p) < g 1 ∧ 0 ≤ g (91 + p) ∧ g (91 + p) < g 1 ∧ 1 ≤ g (101 + p) ∧ g (101 + p) ≤ 40 ∧ 0 ≤ g (111 + p) ∧ g (111 + p) ≤ 7 ∧ ((0 ≤ g (121 + p) ∧ g (121 + p) < g 1) ∨ (10 ≤ g (121 + p) ∧ g (121 + p) < 10 + g 3))) ∧
  (∀ f, 0 ≤ f → f < g 3 → sp_car g f ≤ g (68 + f)) ∧
  (∀ f, g 3 ≤ f → f < 3 → g (62 + f) = 0)
theorem Inv.bd {g : Int → Int} {B : Int} (h : Inv g B) : 0 ≤ B ∧ B ≤ 4000000 := h.1
theorem Inv.ho {g : Int → Int} {B : Int} (h : Inv g B) : 0 ≤ g 0 ∧ g 0 ≤ B := h.2.1
theorem Inv.cr {g : Int → Int} {B : Int} (h : Inv g B) : 0 ≤ g 1 ∧ g 1 ≤ 6 := h.2.2.1
theorem Inv.ch {g : Int → Int} {B : Int} (h : Inv g B) : 0 ≤ g 2 ∧ g 2 ≤ 10 := h.2.2.2.1
theorem Inv.fe {g : Int → Int} {B : Int} (h : Inv g B) : 0 ≤ g 3 ∧ g 3 ≤ 3 := h.2.2.2.2.1
theorem Inv.mo {g : Int → Int} {B : Int} (h : Inv g B) : 0 ≤ g 4 ∧ g 4 ≤ 10 := h.2.2.2.2.2.1
theorem Inv.nx {g : Int → Int} {B : Int} (h : Inv g B) : 0 ≤ g 5 ∧ 20 * g 5 ≤ B := h.2.2.2.2.2.2.1
theorem Inv.fa {g : Int → Int} {B : Int} (h : Inv g B) : 0 ≤ g 6 ∧ g 6 ≤ 20 * B := h.2.2.2.2.2.2.2.1
theorem Inv.re {g : Int → Int} {B : Int} (h : Inv g B) : 0 ≤ g 7 ∧ g 7 ≤ B := h.2.2.2.2.2.2.2.2.1
theorem Inv.pa {g : Int → Int} {B : Int} (h : Inv g B) : 0 ≤ g 8 ∧ g 8 ≤ B := h.2.2.2.2.2.2.2.2.2.1
theorem Inv.sn {g : Int → Int} {B : Int} (h : Inv g B) : 0 ≤ g 9 ∧ g 9 ≤ B := h.2.2.2.2.2.2.2.2.2.2.1
theorem Inv.dep {g : Int → Int} {B : Int} (h : Inv g B) : ∀ i, 0 ≤ i → i < g 1 → 0 ≤ g (10 + i) ∧ g (10 + i) ≤ 9 := h.2.2.2.2.2.2.2.2.2.2.2.1
theorem Inv.cha {g : Int → Int} {B : Int} (h : Inv g B) : ∀ i, 0 ≤ i → i < g 2 → 0 ≤ g (16 + i) ∧ g (16 + i) < g 1 ∧ 0 ≤ g (26 + i) ∧ g (26 + i) < g 1 ∧ ¬ g (16 + i) = g (26 + i) ∧ 1 ≤ g (36 + i) ∧ g (36 + i) ≤ 9 ∧ 0 ≤ g (46 + i) ∧ g (46 + i) ≤ 9 := h.2.2.2.2.2.2.2.2.2.2.2.2.1
theorem Inv.uni {g : Int → Int} {B : Int} (h : Inv g B) : ∀ i j, 0 ≤ i → i < j → j < g 2 → ¬ sp_con g (g (16 + i)) (g (26 + i)) j := h.2.2.2.2.2.2.2.2.2.2.2.2.2.1
theorem Inv.fer {g : Int → Int} {B : Int} (h : Inv g B) : ∀ f, 0 ≤ f → f < g 3 → 0 ≤ g (56 + f) ∧ g (56 + f) < g 1 ∧ 1 ≤ g (65 + f) ∧ g (65 + f) ≤ 12 ∧ 1 ≤ g (68 + f) ∧ g (68 + f) ≤ 99 ∧ (g (62 + f) = 0 ∨ (g 0 ≤ g (62 + f) ∧ 1 ≤ g (62 + f) ∧ g (62 + f) ≤ g 0 + 9 ∧ 0 ≤ g (59 + f) ∧ g (59 + f) < g 1)) := h.2.2.2.2.2.2.2.2.2.2.2.2.2.2.1
theorem Inv.moo {g : Int → Int} {B : Int} (h : Inv g B) : ∀ p, 0 ≤ p → p < g 4 → 0 ≤ g (71 + p) ∧ g (71 + p) < g 5 ∧ 0 ≤ g (81 + p) ∧ g (81 + p) < g 1 ∧ 0 ≤ g (91 + p) ∧ g (91 + p) < g 1 ∧ 1 ≤ g (101 + p) ∧ g (101 + p) ≤ 40 ∧ 0 ≤ g (111 + p) ∧ g (111 + p) ≤ 7 ∧ ((0 ≤ g (121 + p) ∧ g (121 + p) < g 1) ∨ (10 ≤ g (121 + p) ∧ g (121 + p) < 10 + g 3)) := h.2.2.2.2.2.2.2.2.2.2.2.2.2.2.2.1
theorem Inv.car {g : Int → Int} {B : Int} (h : Inv g B) : ∀ f, 0 ≤ f → f < g 3 → sp_car g f ≤ g (68 + f) := h.2.2.2.2.2.2.2.2.2.2.2.2.2.2.2.2.1
theorem Inv.zer {g : Int → Int} {B : Int} (h : Inv g B) : ∀ f, g 3 ≤ f → f < 3 → g (62 + f) = 0 := h.2.2.2.2.2.2.2.2.2.2.2.2.2.2.2.2.2
/-- part of RC -/
def RCs (J L : Nat → Int → Int) (g : Int → Int) : Prop :=
  (J 2 3 = g 0) ∧
  (J 2 4 = g 6) ∧
  (L 2 5 = g 6 - 5 * g 7)
theorem RCs.ho {J L : Nat → Int → Int} {g : Int → Int} (h : RCs J L g) : J 2 3 = g 0 := h.1
theorem RCs.fa {J L : Nat → Int → Int} {g : Int → Int} (h : RCs J L g) : J 2 4 = g 6 := h.2.1
theorem RCs.pu {J L : Nat → Int → Int} {g : Int → Int} (h : RCs J L g) : L 2 5 = g 6 - 5 * g 7 := h.2.2
/-- part of RC -/
def RCw (J : Nat → Int → Int) (g : Int → Int) : Prop :=
  (J 3 0 = g 1) ∧
  (J 3 1 = g 2) ∧
  (∀ i, 0 ≤ i → i < g 1 → J 4 i = g (10 + i)) ∧
  (∀ i, 0 ≤ i → i < g 2 → J 5 i = g (16 + i) ∧ J 6 i = g (26 + i) ∧ J 7 i = g (36 + i) ∧ J 8 i = g (46 + i))
theorem RCw.cr {J : Nat → Int → Int} {g : Int → Int} (h : RCw J g) : J 3 0 = g 1 := h.1
theorem RCw.ch {J : Nat → Int → Int} {g : Int → Int} (h : RCw J g) : J 3 1 = g 2 := h.2.1
theorem RCw.dep {J : Nat → Int → Int} {g : Int → Int} (h : RCw J g) : ∀ i, 0 ≤ i → i < g 1 → J 4 i = g (10 + i) := h.2.2.1
theorem RCw.cha {J : Nat → Int → Int} {g : Int → Int} (h : RCw J g) : ∀ i, 0 ≤ i → i < g 2 → J 5 i = g (16 + i) ∧ J 6 i = g (26 + i) ∧ J 7 i = g (36 + i) ∧ J 8 i = g (46 + i) := h.2.2.2
/-- part of RC -/
def RCf (J : Nat → Int → Int) (g : Int → Int) : Prop :=
  (J 9 0 = g 3) ∧
  (∀ f, 0 ≤ f → f < g 3 → J 13 f = g (65 + f) ∧ J 14 f = g (68 + f) ∧ ((g (62 + f) = 0 ∧ J 11 f = -1 ∧ J 10 f = g (56 + f)) ∨ (0 < g (62 + f) ∧ J 11 f = g (56 + f) ∧ J 10 f = g (59 + f) ∧ J 12 f = g (62 + f))))
theorem RCf.fe {J : Nat → Int → Int} {g : Int → Int} (h : RCf J g) : J 9 0 = g 3 := h.1
theorem RCf.fer {J : Nat → Int → Int} {g : Int → Int} (h : RCf J g) : ∀ f, 0 ≤ f → f < g 3 → J 13 f = g (65 + f) ∧ J 14 f = g (68 + f) ∧ ((g (62 + f) = 0 ∧ J 11 f = -1 ∧ J 10 f = g (56 + f)) ∨ (0 < g (62 + f) ∧ J 11 f = g (56 + f) ∧ J 10 f = g (59 + f) ∧ J 12 f = g (62 + f))) := h.2
/-- part of RC -/
def RCp (J : Nat → Int → Int) (g : Int → Int) : Prop :=
  (J 9 6 = g 8) ∧
  (J 9 7 = g 9) ∧
  (∀ r, 0 ≤ r → r < 10 → r < g 8 → J 15 ((g 8 - 1 - r) % 10) = g (131 + r) ∧ J 16 ((g 8 - 1 - r) % 10) = g (141 + r) ∧ J 17 ((g 8 - 1 - r) % 10) = g (151 + r))
theorem RCp.pa {J : Nat → Int → Int} {g : Int → Int} (h : RCp J g) : J 9 6 = g 8 := h.1
theorem RCp.sn {J : Nat → Int → Int} {g : Int → Int} (h : RCp J g) : J 9 7 = g 9 := h.2.1
theorem RCp.kep {J : Nat → Int → Int} {g : Int → Int} (h : RCp J g) : ∀ r, 0 ≤ r → r < 10 → r < g 8 → J 15 ((g 8 - 1 - r) % 10) = g (131 + r) ∧ J 16 ((g 8 - 1 - r) % 10) = g (141 + r) ∧ J 17 ((g 8 - 1 - r) % 10) = g (151 + r) := h.2.2
/-- part of RC -/
def RCm (J : Nat → Int → Int) (g : Int → Int) : Prop :=
  (J 18 0 = g 4) ∧
  (J 18 1 = g 5) ∧
  (∀ p, 0 ≤ p → p < g 4 → J 19 p = g (71 + p) ∧ J 20 p = g (81 + p) ∧ J 21 p = g (91 + p) ∧ J 22 p = g (101 + p) ∧ J 23 p = g (111 + p) ∧ ((g (121 + p) < 10 ∧ J 24 p = -1 ∧ J 25 p = g (121 + p)) ∨ (10 ≤ g (121 + p) ∧ J 24 p = g (121 + p) - 10 ∧ J 25 p = -1)))
theorem RCm.mo {J : Nat → Int → Int} {g : Int → Int} (h : RCm J g) : J 18 0 = g 4 := h.1
theorem RCm.nx {J : Nat → Int → Int} {g : Int → Int} (h : RCm J g) : J 18 1 = g 5 := h.2.1
theorem RCm.moo {J : Nat → Int → Int} {g : Int → Int} (h : RCm J g) : ∀ p, 0 ≤ p → p < g 4 → J 19 p = g (71 + p) ∧ J 20 p = g (81 + p) ∧ J 21 p = g (91 + p) ∧ J 22 p = g (101 + p) ∧ J 23 p = g (111 + p) ∧ ((g (121 + p) < 10 ∧ J 24 p = -1 ∧ J 25 p = g (121 + p)) ∨ (10 ≤ g (121 + p) ∧ J 24 p = g (121 + p) - 10 ∧ J 25 p = -1)) := h.2.2
/-- the state object at place 2 holds the numbers g -/
def RC (J L : Nat → Int → Int) (g : Int → Int) : Prop := RCs J L g ∧ RCw J g ∧ RCf J g ∧ RCp J g ∧ RCm J g
theorem RC.s {J L : Nat → Int → Int} {g : Int → Int} (h : RC J L g) : RCs J L g := h.1
theorem RC.ho {J L : Nat → Int → Int} {g : Int → Int} (h : RC J L g) : J 2 3 = g 0 := h.1.ho
theorem RC.fa {J L : Nat → Int → Int} {g : Int → Int} (h : RC J L g) : J 2 4 = g 6 := h.1.fa
theorem RC.pu {J L : Nat → Int → Int} {g : Int → Int} (h : RC J L g) : L 2 5 = g 6 - 5 * g 7 := h.1.pu
theorem RC.w {J L : Nat → Int → Int} {g : Int → Int} (h : RC J L g) : RCw J g := h.2.1
theorem RC.cr {J L : Nat → Int → Int} {g : Int → Int} (h : RC J L g) : J 3 0 = g 1 := h.2.1.cr
theorem RC.ch {J L : Nat → Int → Int} {g : Int → Int} (h : RC J L g) : J 3 1 = g 2 := h.2.1.ch
theorem RC.dep {J L : Nat → Int → Int} {g : Int → Int} (h : RC J L g) : ∀ i, 0 ≤ i → i < g 1 → J 4 i = g (10 + i) := h.2.1.dep
theorem RC.cha {J L : Nat → Int → Int} {g : Int → Int} (h : RC J L g) : ∀ i, 0 ≤ i → i < g 2 → J 5 i = g (16 + i) ∧ J 6 i = g (26 + i) ∧ J 7 i = g (36 + i) ∧ J 8 i = g (46 + i) := h.2.1.cha
theorem RC.f {J L : Nat → Int → Int} {g : Int → Int} (h : RC J L g) : RCf J g := h.2.2.1
theorem RC.fe {J L : Nat → Int → Int} {g : Int → Int} (h : RC J L g) : J 9 0 = g 3 := h.2.2.1.fe
theorem RC.fer {J L : Nat → Int → Int} {g : Int → Int} (h : RC J L g) : ∀ f, 0 ≤ f → f < g 3 → J 13 f = g (65 + f) ∧ J 14 f = g (68 + f) ∧ ((g (62 + f) = 0 ∧ J 11 f = -1 ∧ J 10 f = g (56 + f)) ∨ (0 < g (62 + f) ∧ J 11 f = g (56 + f) ∧ J 10 f = g (59 + f) ∧ J 12 f = g (62 + f))) := h.2.2.1.fer
theorem RC.p {J L : Nat → Int → Int} {g : Int → Int} (h : RC J L g) : RCp J g := h.2.2.2.1
theorem RC.pa {J L : Nat → Int → Int} {g : Int → Int} (h : RC J L g) : J 9 6 = g 8 := h.2.2.2.1.pa
theorem RC.sn {J L : Nat → Int → Int} {g : Int → Int} (h : RC J L g) : J 9 7 = g 9 := h.2.2.2.1.sn
theorem RC.kep {J L : Nat → Int → Int} {g : Int → Int} (h : RC J L g) : ∀ r, 0 ≤ r → r < 10 → r < g 8 → J 15 ((g 8 - 1 - r) % 10) = g (131 + r) ∧ J 16 ((g 8 - 1 - r) % 10) = g (141 + r) ∧ J 17 ((g 8 - 1 - r) % 10) = g (151 + r) := h.2.2.2.1.kep
theorem RC.m {J L : Nat → Int → Int} {g : Int → Int} (h : RC J L g) : RCm J g := h.2.2.2.2
theorem RC.mo {J L : Nat → Int → Int} {g : Int → Int} (h : RC J L g) : J 18 0 = g 4 := h.2.2.2.2.mo
theorem RC.nx {J L : Nat → Int → Int} {g : Int → Int} (h : RC J L g) : J 18 1 = g 5 := h.2.2.2.2.nx
theorem RC.moo {J L : Nat → Int → Int} {g : Int → Int} (h : RC J L g) : ∀ p, 0 ≤ p → p < g 4 → J 19 p = g (71 + p) ∧ J 20 p = g (81 + p) ∧ J 21 p = g (91 + p) ∧ J 22 p = g (101 + p) ∧ J 23 p = g (111 + p) ∧ ((g (121 + p) < 10 ∧ J 24 p = -1 ∧ J 25 p = g (121 + p)) ∨ (10 ≤ g (121 + p) ∧ J 24 p = g (121 + p) - 10 ∧ J 25 p = -1)) := h.2.2.2.2.moo
theorem RCs.to {J J' L L' : Nat → Int → Int} {g g' : Int → Int} (h : RCs J L g) (e : J' 2 = J 2) (e2 : L' 2 = L 2) (e3 : g' 0 = g 0 ∧ g' 6 = g 6 ∧ g' 7 = g 7) : RCs J' L' g' := by
  unfold RCs at h ⊢
  rw [e, e2, e3.1, e3.2.1, e3.2.2]
  exact h
theorem RCw.to {J J' : Nat → Int → Int} {g g' : Int → Int} (h : RCw J g) (e : ∀ x, 3 ≤ x → x ≤ 8 → J' x = J x) (e1 : g' 1 = g 1 ∧ g' 2 = g 2) (e2 : ∀ s, 10 ≤ s → s < 56 → g' s = g s) (h1 : g 1 ≤ 6) (h2 : g 2 ≤ 10) : RCw J' g' := by
  refine ⟨?_, ?_, fun i a b => ?_, fun i a b => ?_⟩
  · rw [e 3 (by decide) (by decide), e1.1]; exact h.cr
  · rw [e 3 (by decide) (by decide), e1.2]; exact h.ch
  · rw [e1.1] at b
    rw [e 4 (by decide) (by decide), e2 _ (by omega) (by omega)]; exact h.dep i a b
  · rw [e1.2] at b
    rw [e 5 (by decide) (by decide), e 6 (by decide) (by decide), e 7 (by decide) (by decide), e 8 (by decide) (by decide), e2 _ (by omega) (by omega), e2 (26 + i) (by omega) (by omega), e2 (36 + i) (by omega) (by omega), e2 (46 + i) (by omega) (by omega)]
    exact h.cha i a b
theorem RCf.to {J J' : Nat → Int → Int} {g g' : Int → Int} (h : RCf J g) (e : J' 9 0 = J 9 0 ∧ ∀ x, 10 ≤ x → x ≤ 14 → J' x = J x) (e1 : g' 3 = g 3) (e2 : ∀ s, 56 ≤ s → s < 71 → g' s = g s) (h1 : g 3 ≤ 3) : RCf J' g' := by
  refine ⟨?_, fun i a b => ?_⟩
  · rw [e.1, e1]; exact h.fe
  · rw [e1] at b
    rw [e.2 10 (by decide) (by decide), e.2 11 (by decide) (by decide), e.2 12 (by decide) (by decide), e.2 13 (by decide) (by decide), e.2 14 (by decide) (by decide), e2 (65 + i) (by omega) (by omega), e2 (68 + i) (by omega) (by omega), e2 (62 + i) (by omega) (by omega), e2 (56 + i) (by omega) (by omega), e2 (59 + i) (by omega) (by omega)]
    exact h.fer i a b
theorem RCp.to {J J' : Nat → Int → Int} {g g' : Int → Int} (h : RCp J g) (e : (J' 9 6 = J 9 6 ∧ J' 9 7 = J 9 7) ∧ ∀ x, 15 ≤ x → x ≤ 17 → J' x = J x) (e1 : g' 8 = g 8 ∧ g' 9 = g 9) (e2 : ∀ s, 131 ≤ s → s < 161 → g' s = g s) : RCp J' g' := by
  refine ⟨?_, ?_, fun i a b q => ?_⟩
  · rw [e.1.1, e1.1]; exact h.pa
  · rw [e.1.2, e1.2]; exact h.sn
  · rw [e1.1] at q ⊢
    rw [e.2 15 (by decide) (by decide), e.2 16 (by decide) (by decide), e.2 17 (by decide) (by decide), e2 (131 + i) (by omega) (by omega), e2 (141 + i) (by omega) (by omega), e2 (151 + i) (by omega) (by omega)]
    exact h.kep i a b q
theorem RCm.to {J J' : Nat → Int → Int} {g g' : Int → Int} (h : RCm J g) (e : ∀ x, 18 ≤ x → x ≤ 25 → J' x = J x) (e1 : g' 4 = g 4 ∧ g' 5 = g 5) (e2 : ∀ s, 71 ≤ s → s < 131 → g' s = g s) (h1 : g 4 ≤ 10) : RCm J' g' := by
  refine ⟨?_, ?_, fun i a b => ?_⟩
  · rw [e 18 (by decide) (by decide), e1.1]; exact h.mo
  · rw [e 18 (by decide) (by decide), e1.2]; exact h.nx
  · rw [e1.1] at b
    rw [e 19 (by decide) (by decide), e 20 (by decide) (by decide), e 21 (by decide) (by decide), e 22 (by decide) (by decide), e 23 (by decide) (by decide), e 24 (by decide) (by decide), e 25 (by decide) (by decide), e2 (71 + i) (by omega) (by omega), e2 (81 + i) (by omega) (by omega), e2 (91 + i) (by omega) (by omega), e2 (101 + i) (by omega) (by omega), e2 (111 + i) (by omega) (by omega), e2 (121 + i) (by omega) (by omega)]
    exact h.moo i a b
/-- all but the places lo .. hi is as it was -/
def sp_fr (lo hi : Nat) (J J' : Nat → Int → Int) : Prop := ∀ x, ¬ (lo ≤ x ∧ x ≤ hi) → J' x = J x
theorem sp_fr.refl {lo hi : Nat} {J : Nat → Int → Int} : sp_fr lo hi J J := fun _ _ => rfl
theorem sp_fr.trans {lo hi : Nat} {J J' J'' : Nat → Int → Int} (h : sp_fr lo hi J J') (k : sp_fr lo hi J' J'') : sp_fr lo hi J J'' := fun x q => (k x q).trans (h x q)
theorem sp_fr.mono {lo hi lo' hi' : Nat} {J J' : Nat → Int → Int} (h : sp_fr lo hi J J') (a : lo' ≤ lo) (b : hi ≤ hi') : sp_fr lo' hi' J J' := fun x q => h x (by omega)
theorem sp_fr.u {lo hi : Nat} {J J' : Nat → Int → Int} (h : sp_fr lo hi J J') {a : Nat} {i v : Int} (ha : lo ≤ a ∧ a ≤ hi) : sp_fr lo hi J (nw_u J' a i v) := fun x q => by
  rw [← h x q]
  funext k
  exact nw_uN (fun e => q (e ▸ ha))
theorem nw_uP {α : Type} {J : Nat → Int → α} {a b : Nat} {i : Int} {v : α} (h : ¬ b = a) : nw_u J a i v b = J b := by
  funext k
  exact nw_uN h
/-- a number of g set -/
def sp_set (g : Int → Int) (i v : Int) : Int → Int := fun s => if s = i then v else g s
theorem nw_u304 {J : Nat → Int → Int} {a : Nat} {i v : Int} : nw_u J a i v a = sp_set (J a) i v := by
  funext s
  unfold nw_u sp_set
  rw [if_pos rfl]
theorem sp_w_bd {g : Int → Int} {B f : Int} (hI : Inv g B) (j : Int) (h0 : 0 ≤ j) (h1 : j < g 4) : 0 ≤ sp_w g f j ∧ sp_w g f j ≤ 40 := by
  have := hI.moo j h0 h1
  unfold sp_w
  split <;> omega
theorem sp_car_bd {g : Int → Int} {B f : Int} (hI : Inv g B) : 0 ≤ sp_car g f ∧ sp_car g f ≤ 400 := by
  have h := hI.mo
  have := sp_sum_bd (f := sp_w g f) (b := 40) (n := (g 4).toNat) (fun j a b => sp_w_bd hI j a (by omega))
  unfold sp_car
  omega

