/-! least hours between craters: a table's closure; walks -/
section
noncomputable def sp_T0 (g : Int → Int) (i j : Int) : Int := if i = j then 0 else if sp_btwF g i j = -1 then 10000 else g (36 + sp_btwF g i j)
noncomputable def sp_T (g : Int → Int) : Nat → Int → Int → Int
  | 0 => sp_T0 g
  | m + 1 => fun i j => if sp_T g m i m + sp_T g m m j < sp_T g m i j then sp_T g m i m + sp_T g m m j else sp_T g m i j
/-- the least hours of a way, 10000 if there is none -/
noncomputable def sp_D (g : Int → Int) (i j : Int) : Int := sp_T g 6 i j
theorem sp_T_s (g : Int → Int) (m : Nat) (i j : Int) : sp_T g (m + 1) i j = if sp_T g m i m + sp_T g m m j < sp_T g m i j then sp_T g m i m + sp_T g m m j else sp_T g m i j := rfl
/-- a walk of k channels from a to b with h hours -/
def sp_wk (g : Int → Int) : Nat → Int → Int → Int → Prop
  | 0, a, b, h => a = b ∧ h = 0
  | k + 1, a, b, h => ∃ c x, 0 ≤ c ∧ c < g 2 ∧ sp_con g x b c ∧ sp_wk g k a x (h - g (36 + c))
theorem sp_wk_cat {g : Int → Int} {k : Nat} {a m : Int} {h1 : Int} (p : sp_wk g k a m h1) : ∀ {l : Nat} {b h2 : Int}, sp_wk g l m b h2 → sp_wk g (k + l) a b (h1 + h2)
  | 0, b, h2, q => by
    obtain ⟨rfl, rfl⟩ := q
    rw [Int.add_zero]
    exact p
  | l + 1, b, h2, ⟨c, x, c0, c1, c2, q⟩ => ⟨c, x, c0, c1, c2, by
    have := sp_wk_cat p q
    rw [show h1 + h2 - g (36 + c) = h1 + (h2 - g (36 + c)) by omega]
    exact this⟩
theorem sp_T0_rng {g : Int → Int} {B : Int} (hI : Inv g B) (i j : Int) : (sp_T0 g i j = 10000 ∧ ¬ i = j) ∨ (0 ≤ sp_T0 g i j ∧ sp_T0 g i j ≤ 9) := by
  unfold sp_T0
  by_cases h : i = j
  · rw [if_pos h]; omega
  · rw [if_neg h]
    rcases sp_btwF_rng g i j with q | q
    · rw [if_pos q]; exact Or.inl ⟨rfl, h⟩
    · rw [if_neg (by omega)]
      have := hI.cha _ q.1 q.2.1
      omega
theorem sp_T_ii {g : Int → Int} {B : Int} (hI : Inv g B) : ∀ (m : Nat) (i : Int), sp_T g m i i = 0 ∧ ∀ j, 0 ≤ sp_T g m i j
  | 0, i => ⟨if_pos rfl, fun j => by have := sp_T0_rng hI i j; show 0 ≤ sp_T0 g i j; omega⟩
  | m + 1, i => by
    have h1 := sp_T_ii hI m i
    have h2 := sp_T_ii hI m m
    refine ⟨?_, fun j => ?_⟩
    · rw [sp_T_s, if_neg (by have := h1.2 m; have := h2.2 i; omega)]
      exact h1.1
    · rw [sp_T_s]
      have := h1.2 j
      have := h1.2 m
      have := h2.2 j
      split <;> omega
theorem sp_T_bd {g : Int → Int} {B : Int} (hI : Inv g B) : ∀ (m : Nat) (i j : Int), sp_T g m i j = 10000 ∨ (sp_T g m i j ≤ 9 * 2 ^ m ∧ sp_T g m i j ≤ 10000)
  | 0, i, j => by
    have := sp_T0_rng hI i j
    show sp_T0 g i j = 10000 ∨ _ ∧ sp_T0 g i j ≤ 10000
    rw [show ((9 : Int) * 2 ^ 0) = 9 from rfl]
    rcases this with h | h
    · exact Or.inl h.1
    · exact Or.inr ⟨h.2, by omega⟩
  | m + 1, i, j => by
    have h1 := sp_T_bd hI m i j
    have h2 := sp_T_bd hI m i m
    have h3 := sp_T_bd hI m m j
    have p1 := (sp_T_ii hI m i).2 m
    have p2 := (sp_T_ii hI m m).2 j
    have e : (9 : Int) * 2 ^ (m + 1) = 9 * 2 ^ m + 9 * 2 ^ m := by rw [Int.pow_succ]; omega
    have pp : (0 : Int) < 2 ^ m := Int.pow_pos (by decide)
    rw [sp_T_s, e]
    split <;> omega
theorem sp_T_le {g : Int → Int} {B : Int} (hI : Inv g B) (m : Nat) (i j : Int) : sp_T g m i j ≤ 10000 := by
  have := sp_T_bd hI m i j
  omega
theorem sp_T_cl {g : Int → Int} {B : Int} (hI : Inv g B) : ∀ (m k : Nat), k < m → ∀ i j, sp_T g m i j ≤ sp_T g m i k + sp_T g m k j
  | 0, k, h => by omega
  | m + 1, k, h => by
    intro i j
    have a0 := (sp_T_ii hI m m).1
    have a1 := (sp_T_ii hI m i).2 m
    have a2 := (sp_T_ii hI m m).2 j
    have a3 := (sp_T_ii hI m k).2 m
    have a4 := (sp_T_ii hI m m).2 k
    rw [sp_T_s g m i j, sp_T_s g m i k, sp_T_s g m k j]
    by_cases q : k = m
    · subst q
      rw [a0]
      split <;> split <;> split <;> omega
    · have c := fun i j => sp_T_cl hI m k (by omega) i j
      have c1 := c i j
      have c2 := c m j
      have c3 := c i m
      have c4 := c m m
      split <;> split <;> split <;> omega
theorem sp_T_dec {g : Int → Int} : ∀ (m : Nat) (i j : Int), sp_T g m i j ≤ sp_T0 g i j
  | 0, i, j => Int.le_refl _
  | m + 1, i, j => by
    have := sp_T_dec (g := g) m i j
    rw [sp_T_s]
    split <;> omega
theorem sp_T_wk {g : Int → Int} {B : Int} (hI : Inv g B) : ∀ (m : Nat) (i j : Int), sp_T g m i j = 10000 ∨ ∃ k, sp_wk g k i j (sp_T g m i j)
  | 0, i, j => by
    show sp_T0 g i j = 10000 ∨ ∃ k, sp_wk g k i j (sp_T0 g i j)
    unfold sp_T0
    by_cases h : i = j
    · rw [if_pos h]; exact Or.inr ⟨0, h, rfl⟩
    · rw [if_neg h]
      rcases sp_btwF_rng g i j with q | q
      · rw [if_pos q]; exact Or.inl rfl
      · rw [if_neg (by omega)]
        exact Or.inr ⟨1, _, i, q.1, q.2.1, q.2.2, rfl, by omega⟩
  | m + 1, i, j => by
    rw [sp_T_s]
    split
    · rename_i q
      have l1 := sp_T_le hI m i j
      have p1 := (sp_T_ii hI m i).2 m
      have p2 := (sp_T_ii hI m m).2 j
      rcases sp_T_wk hI m i m with h1 | ⟨k1, h1⟩
      · omega
      · rcases sp_T_wk hI m m j with h2 | ⟨k2, h2⟩
        · omega
        · exact Or.inr ⟨k1 + k2, sp_wk_cat h1 h2⟩
    · exact sp_T_wk hI m i j
theorem sp_con_rng {g : Int → Int} {B : Int} (hI : Inv g B) {x b c : Int} (h0 : 0 ≤ c) (h1 : c < g 2) (h : sp_con g x b c) : 0 ≤ x ∧ x < g 1 ∧ 0 ≤ b ∧ b < g 1 ∧ ¬ x = b := by
  have := hI.cha c h0 h1
  unfold sp_con at h
  omega
theorem sp_con_T0 {g : Int → Int} {B : Int} (hI : Inv g B) {x b c : Int} (h0 : 0 ≤ c) (h1 : c < g 2) (h : sp_con g x b c) : sp_T0 g x b = g (36 + c) := by
  have hb := sp_btwF_rng g x b
  have hr := sp_con_rng hI h0 h1 h
  have e : sp_btwF g x b = c := by
    rcases hb with q | q
    · exact absurd h (sp_btwF_no q c h0 h1)
    · obtain ⟨r, hr⟩ : ∃ r, sp_btwF g x b = r := ⟨_, rfl⟩
      rw [hr] at q ⊢
      rcases Int.lt_trichotomy r c with z | z | z
      · have := hI.uni r c q.1 z h1
        have q2 := q.2.2
        unfold sp_con at this q2 h
        omega
      · exact z
      · have := hI.uni c r h0 z q.2.1
        have q2 := q.2.2
        unfold sp_con at this q2 h
        omega
  unfold sp_T0
  rw [if_neg hr.2.2.2.2, e, if_neg (by omega)]
theorem sp_D_step {g : Int → Int} {B : Int} (hI : Inv g B) {a x b c : Int} (h0 : 0 ≤ c) (h1 : c < g 2) (h : sp_con g x b c) : sp_D g a b ≤ sp_D g a x + g (36 + c) := by
  have hr := sp_con_rng hI h0 h1 h
  have hc := hI.cr
  have := sp_T_cl hI 6 x.toNat (by omega) a b
  rw [Int.toNat_of_nonneg hr.1] at this
  have d := sp_T_dec (g := g) 6 x b
  rw [sp_con_T0 hI h0 h1 h] at d
  unfold sp_D
  omega
theorem sp_D_ii {g : Int → Int} {B : Int} (hI : Inv g B) (a : Int) : sp_D g a a = 0 := (sp_T_ii hI 6 a).1
theorem sp_D_nn {g : Int → Int} {B : Int} (hI : Inv g B) (a b : Int) : 0 ≤ sp_D g a b := (sp_T_ii hI 6 a).2 b
theorem sp_D_bd {g : Int → Int} {B : Int} (hI : Inv g B) (a b : Int) : sp_D g a b = 10000 ∨ sp_D g a b ≤ 576 := by
  have := sp_T_bd hI 6 a b
  rw [show ((9 : Int) * 2 ^ 6) = 576 from rfl] at this
  unfold sp_D
  omega
theorem sp_D_wk_le {g : Int → Int} {B : Int} (hI : Inv g B) {a : Int} : ∀ {k : Nat} {b h : Int}, sp_wk g k a b h → sp_D g a b ≤ h
  | 0, b, h, q => by
    obtain ⟨rfl, rfl⟩ := q
    rw [sp_D_ii hI]
    exact Int.le_refl _
  | k + 1, b, h, ⟨c, x, c0, c1, c2, q⟩ => by
    have h1 := sp_D_wk_le hI q
    have h2 := sp_D_step hI (a := a) c0 c1 c2
    omega
/-- the last channel of a shortest way -/
theorem sp_D_last {g : Int → Int} {B : Int} (hI : Inv g B) {a b : Int} (hab : ¬ a = b) (h : ¬ sp_D g a b = 10000) : ∃ c x, 0 ≤ c ∧ c < g 2 ∧ sp_con g x b c ∧ sp_D g a b = sp_D g a x + g (36 + c) ∧ ¬ sp_D g a x = 10000 := by
  rcases sp_T_wk hI 6 a b with q | ⟨k, q⟩
  · exact absurd q h
  · cases k with
    | zero => exact absurd q.1 hab
    | succ k =>
      obtain ⟨c, x, c0, c1, c2, q⟩ := q
      have h1 := sp_D_wk_le hI q
      have h2 := sp_D_step hI (a := a) c0 c1 c2
      have h3 := sp_D_bd hI a b
      have h4 := hI.cha c c0 c1
      have h5 : sp_D g a b = sp_T g 6 a b := rfl
      exact ⟨c, x, c0, c1, c2, by omega, by omega⟩
theorem sp_T_far {g : Int → Int} {B : Int} (hI : Inv g B) : ∀ (m : Nat) (i k : Int), ¬ i = k → (g 1 ≤ k ∨ g 1 ≤ i) → sp_T g m i k = 10000
  | 0, i, k, h, q => by
    show sp_T0 g i k = 10000
    unfold sp_T0
    rw [if_neg h]
    rcases sp_btwF_rng g i k with z | z
    · rw [if_pos z]
    · have := sp_con_rng hI z.1 z.2.1 z.2.2
      omega
  | m + 1, i, k, h, q => by
    rw [sp_T_s, sp_T_far hI m i k h q]
    have p1 := (sp_T_ii hI m i).2 m
    have p2 := (sp_T_ii hI m m).2 k
    rw [if_neg]
    rcases q with q | q
    · by_cases z : (m : Int) = k
      · have e := sp_T_far hI m i k h (Or.inl q)
        rw [← z] at e
        omega
      · rw [sp_T_far hI m m k z (Or.inl q)]
        omega
    · by_cases z : i = (m : Int)
      · rw [← z, sp_T_far hI m i k h (Or.inr q)]
        have := (sp_T_ii hI m i).1
        omega
      · rw [sp_T_far hI m i m z (Or.inr q)]
        omega
theorem sp_T_stable {g : Int → Int} {B : Int} (hI : Inv g B) (i j : Int) (hi : i < g 1) (hj : j < g 1) : ∀ (k : Nat), sp_T g ((g 1).toNat + k) i j = sp_T g (g 1).toNat i j
  | 0 => rfl
  | k + 1 => by
    have hc := hI.cr
    rw [← Nat.add_assoc, sp_T_s, sp_T_far hI _ i _ (by omega) (Or.inl (by omega))]
    have p2 := (sp_T_ii hI ((g 1).toNat + k) (((g 1).toNat + k : Nat) : Int)).2 j
    have := sp_T_le hI ((g 1).toNat + k) i j
    rw [if_neg (by omega)]
    exact sp_T_stable hI i j hi hj k
theorem sp_T_D {g : Int → Int} {B : Int} (hI : Inv g B) (i j : Int) (hi : i < g 1) (hj : j < g 1) : sp_T g (g 1).toNat i j = sp_D g i j := by
  have hc := hI.cr
  have := sp_T_stable hI i j hi hj (6 - (g 1).toNat)
  rw [show (g 1).toNat + (6 - (g 1).toNat) = 6 by omega] at this
  exact this.symm
end

