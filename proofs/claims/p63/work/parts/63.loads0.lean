/-! the best set of moons, as a word: taking the lowest number first where sums are equal -/
section
noncomputable def sp_if (P : Prop) (x : Int) : Int := @ite Int P (Classical.propDecidable P) x 0
theorem sp_ifT {P : Prop} {x : Int} (h : P) : sp_if P x = x := if_pos h
theorem sp_ifF {P : Prop} {x : Int} (h : ¬ P) : sp_if P x = 0 := if_neg h
theorem sp_if_congr {P Q : Prop} {x : Int} (h : P ↔ Q) : sp_if P x = sp_if Q x := by
  rcases Classical.em P with p | p
  · rw [sp_ifT p, sp_ifT (h.mp p)]
  · rw [sp_ifF p, sp_ifF (fun q => p (h.mpr q))]
theorem sp_if_nn {P : Prop} {x : Int} (h : P → 0 ≤ x) : 0 ≤ sp_if P x := by
  rcases Classical.em P with p | p
  · rw [sp_ifT p]; exact h p
  · rw [sp_ifF p]; exact Int.le_refl _
/-- a sum over p, p + 1 .. p + k - 1 -/
def sp_tl (f : Int → Int) : Nat → Int → Int
  | 0, _ => 0
  | k + 1, p => f p + sp_tl f k (p + 1)
theorem sp_tl_congr {f h : Int → Int} : ∀ {k : Nat} {p : Int}, (∀ x, p ≤ x → x < p + k → f x = h x) → sp_tl f k p = sp_tl h k p
  | 0, _, _ => rfl
  | k + 1, p, e => by
    rw [sp_tl, sp_tl, e p (by omega) (by omega), sp_tl_congr (k := k) (p := p + 1) (fun x a b => e x (by omega) (by omega))]
theorem sp_tl_last {f : Int → Int} : ∀ {k : Nat} {p : Int}, sp_tl f (k + 1) p = sp_tl f k p + f (p + k)
  | 0, p => by
    rw [sp_tl, sp_tl, sp_tl, show p + ((0 : Nat) : Int) = p by omega]
    omega
  | k + 1, p => by
    have ih := sp_tl_last (f := f) (k := k) (p := p + 1)
    rw [sp_tl, ih, sp_tl, show p + 1 + (k : Int) = p + ((k + 1 : Nat) : Int) by omega]
    omega
theorem sp_tl_sum {f : Int → Int} : ∀ {n : Nat}, sp_sum f n = sp_tl f n 0
  | 0 => rfl
  | n + 1 => by
    rw [sp_sum, sp_tl_last, sp_tl_sum (n := n), show (0 : Int) + (n : Int) = (n : Int) by omega]
theorem sp_tl_nn {f : Int → Int} : ∀ {k : Nat} {p : Int}, (∀ x, p ≤ x → x < p + k → 0 ≤ f x) → 0 ≤ sp_tl f k p
  | 0, _, _ => Int.le_refl _
  | k + 1, p, e => by
    rw [sp_tl]
    have h1 := e p (by omega) (by omega)
    have h2 := sp_tl_nn (k := k) (p := p + 1) (fun x a b => e x (by omega) (by omega))
    omega
theorem sp_tl_zero {f : Int → Int} : ∀ {k : Nat} {p : Int}, (∀ x, p ≤ x → x < p + k → f x = 0) → sp_tl f k p = 0
  | 0, _, _ => rfl
  | k + 1, p, e => by
    rw [sp_tl, e p (by omega) (by omega), sp_tl_zero (k := k) (p := p + 1) (fun x a b => e x (by omega) (by omega))]
    rfl
/-- the best sum from place p on, k places, within r, and its set -/
noncomputable def sp_E (C : Int → Prop) (w v : Int → Int) : Nat → Int → Int → Int × (Int → Prop)
  | 0, _, _ => (0, fun _ => False)
  | k + 1, p, r => @ite _ (C p ∧ w p ≤ r ∧ (sp_E C w v k (p + 1) r).1 ≤ v p + (sp_E C w v k (p + 1) (r - w p)).1) (Classical.propDecidable _) (v p + (sp_E C w v k (p + 1) (r - w p)).1, fun x => x = p ∨ (sp_E C w v k (p + 1) (r - w p)).2 x) (sp_E C w v k (p + 1) r)
section
variable {C : Int → Prop} {w v : Int → Int}
theorem sp_E_take {k : Nat} {p r : Int} (h : C p ∧ w p ≤ r ∧ (sp_E C w v k (p + 1) r).1 ≤ v p + (sp_E C w v k (p + 1) (r - w p)).1) : sp_E C w v (k + 1) p r = (v p + (sp_E C w v k (p + 1) (r - w p)).1, fun x => x = p ∨ (sp_E C w v k (p + 1) (r - w p)).2 x) := if_pos h
theorem sp_E_skip {k : Nat} {p r : Int} (h : ¬ (C p ∧ w p ≤ r ∧ (sp_E C w v k (p + 1) r).1 ≤ v p + (sp_E C w v k (p + 1) (r - w p)).1)) : sp_E C w v (k + 1) p r = sp_E C w v k (p + 1) r := if_neg h
theorem sp_E_in : ∀ {k : Nat} {p r x : Int}, (sp_E C w v k p r).2 x → p ≤ x ∧ x < p + k ∧ C x
  | 0, _, _, _, h => h.elim
  | k + 1, p, r, x, h => by
    rcases Classical.em (C p ∧ w p ≤ r ∧ (sp_E C w v k (p + 1) r).1 ≤ v p + (sp_E C w v k (p + 1) (r - w p)).1) with c | c
    · rw [sp_E_take c] at h
      rcases h with h | h
      · rw [h]
        exact ⟨Int.le_refl _, by omega, c.1⟩
      · have := sp_E_in h
        exact ⟨by omega, by omega, this.2.2⟩
    · rw [sp_E_skip c] at h
      have := sp_E_in h
      exact ⟨by omega, by omega, this.2.2⟩
theorem sp_E_sum : ∀ {k : Nat} {p r : Int}, 0 ≤ r → sp_tl (fun x => sp_if ((sp_E C w v k p r).2 x) (w x)) k p ≤ r ∧ sp_tl (fun x => sp_if ((sp_E C w v k p r).2 x) (v x)) k p = (sp_E C w v k p r).1
  | 0, _, _, h => ⟨h, rfl⟩
  | k + 1, p, r, h => by
    rcases Classical.em (C p ∧ w p ≤ r ∧ (sp_E C w v k (p + 1) r).1 ≤ v p + (sp_E C w v k (p + 1) (r - w p)).1) with c | c
    · rw [sp_E_take c]
      have ih := sp_E_sum (k := k) (p := p + 1) (r := r - w p) (by omega)
      have eq : ∀ u : Int → Int, sp_tl (fun x => sp_if (x = p ∨ (sp_E C w v k (p + 1) (r - w p)).2 x) (u x)) (k + 1) p = u p + sp_tl (fun x => sp_if ((sp_E C w v k (p + 1) (r - w p)).2 x) (u x)) k (p + 1) := fun u => by
        rw [sp_tl, sp_ifT (Or.inl rfl)]
        congr 1
        refine sp_tl_congr (fun x a b => sp_if_congr ⟨fun z => z.resolve_left (by omega), Or.inr⟩)
      dsimp only
      rw [eq w, eq v]
      omega
    · rw [sp_E_skip c]
      have ih := sp_E_sum (k := k) (p := p + 1) (r := r) h
      have eq : ∀ u : Int → Int, sp_tl (fun x => sp_if ((sp_E C w v k (p + 1) r).2 x) (u x)) (k + 1) p = sp_tl (fun x => sp_if ((sp_E C w v k (p + 1) r).2 x) (u x)) k (p + 1) := fun u => by
        rw [sp_tl, sp_ifF (fun z => by have := (sp_E_in z).1; omega)]
        omega
      rw [eq w, eq v]
      exact ih
theorem sp_E_nn (hv : ∀ x, C x → 0 ≤ v x) : ∀ {k : Nat} {p r : Int}, 0 ≤ (sp_E C w v k p r).1
  | 0, _, _ => Int.le_refl _
  | k + 1, p, r => by
    rcases Classical.em (C p ∧ w p ≤ r ∧ (sp_E C w v k (p + 1) r).1 ≤ v p + (sp_E C w v k (p + 1) (r - w p)).1) with c | c
    · rw [sp_E_take c]
      have h1 := hv p c.1
      have h2 := sp_E_nn hv (k := k) (p := p + 1) (r := r - w p)
      dsimp only
      omega
    · rw [sp_E_skip c]
      exact sp_E_nn hv
theorem sp_E_opt (hw : ∀ x, C x → 0 ≤ w x) : ∀ {k : Nat} {p r : Int} {T : Int → Prop}, (∀ x, T x → p ≤ x ∧ x < p + k ∧ C x) → sp_tl (fun x => sp_if (T x) (w x)) k p ≤ r →
    sp_tl (fun x => sp_if (T x) (v x)) k p ≤ (sp_E C w v k p r).1 ∧ (sp_tl (fun x => sp_if (T x) (v x)) k p = (sp_E C w v k p r).1 → (∀ x, T x ↔ (sp_E C w v k p r).2 x) ∨ ∃ y, p ≤ y ∧ y < p + k ∧ (sp_E C w v k p r).2 y ∧ ¬ T y ∧ ∀ x, x < y → (T x ↔ (sp_E C w v k p r).2 x))
  | 0, p, r, T, hT, _ => ⟨Int.le_refl _, fun _ => Or.inl (fun x => ⟨fun z => by have := hT x z; omega, fun z => z.elim⟩)⟩
  | k + 1, p, r, T, hT, hr => by
    rcases Classical.em (T p) with tp | tp
    · have hp := hT p tp
      have hT' : ∀ x, (T x ∧ ¬ x = p) → p + 1 ≤ x ∧ x < p + 1 + k ∧ C x := fun x z => by
        have := hT x z.1
        exact ⟨by omega, by omega, this.2.2⟩
      have eq : ∀ u : Int → Int, sp_tl (fun x => sp_if (T x) (u x)) (k + 1) p = u p + sp_tl (fun x => sp_if (T x ∧ ¬ x = p) (u x)) k (p + 1) := fun u => by
        rw [sp_tl, sp_ifT tp]
        congr 1
        exact sp_tl_congr (fun x a b => sp_if_congr ⟨fun z => ⟨z, by omega⟩, fun z => z.1⟩)
      have nn : 0 ≤ sp_tl (fun x => sp_if (T x ∧ ¬ x = p) (w x)) k (p + 1) := sp_tl_nn (fun x a b => sp_if_nn (fun z => hw x (hT x z.1).2.2))
      rw [eq w] at hr
      have ih := sp_E_opt hw (k := k) (p := p + 1) (r := r - w p) hT' (by omega)
      rw [eq v]
      rcases Classical.em (C p ∧ w p ≤ r ∧ (sp_E C w v k (p + 1) r).1 ≤ v p + (sp_E C w v k (p + 1) (r - w p)).1) with c | c
      · rw [sp_E_take c]
        dsimp only
        refine ⟨by omega, fun z => ?_⟩
        rcases ih.2 (by omega) with q | ⟨y, y0, y1, y2, y3, y4⟩
        · refine Or.inl (fun x => ⟨fun t => ?_, fun t => ?_⟩)
          · by_cases e : x = p
            · exact Or.inl e
            · exact Or.inr ((q x).mp ⟨t, e⟩)
          · rcases t with e | t
            · rw [e]; exact tp
            · exact ((q x).mpr t).1
        · refine Or.inr ⟨y, by omega, by omega, Or.inr y2, fun t => y3 ⟨t, by omega⟩, fun x xy => ⟨fun t => ?_, fun t => ?_⟩⟩
          · by_cases e : x = p
            · exact Or.inl e
            · exact Or.inr ((y4 x xy).mp ⟨t, e⟩)
          · rcases t with e | t
            · rw [e]; exact tp
            · exact ((y4 x xy).mpr t).1
      · rw [sp_E_skip c]
        have : v p + (sp_E C w v k (p + 1) (r - w p)).1 < (sp_E C w v k (p + 1) r).1 := by
          by_cases z : (sp_E C w v k (p + 1) r).1 ≤ v p + (sp_E C w v k (p + 1) (r - w p)).1
          · exact absurd ⟨hp.2.2, by omega, z⟩ c
          · omega
        exact ⟨by omega, fun z => by omega⟩
    · have hT' : ∀ x, T x → p + 1 ≤ x ∧ x < p + 1 + k ∧ C x := fun x z => by
        have := hT x z
        have : ¬ x = p := fun e => tp (e ▸ z)
        exact ⟨by omega, by omega, (hT x z).2.2⟩
      have eq : ∀ u : Int → Int, sp_tl (fun x => sp_if (T x) (u x)) (k + 1) p = sp_tl (fun x => sp_if (T x) (u x)) k (p + 1) := fun u => by
        rw [sp_tl, sp_ifF tp]
        omega
      rw [eq w] at hr
      have ih := sp_E_opt hw (k := k) (p := p + 1) (r := r) hT' hr
      rw [eq v]
      rcases Classical.em (C p ∧ w p ≤ r ∧ (sp_E C w v k (p + 1) r).1 ≤ v p + (sp_E C w v k (p + 1) (r - w p)).1) with c | c
      · rw [sp_E_take c]
        dsimp only
        refine ⟨by omega, fun z => Or.inr ⟨p, Int.le_refl _, by omega, Or.inl rfl, tp, fun x xy => ⟨fun t => ?_, fun t => ?_⟩⟩⟩
        · have := hT' x t
          omega
        · rcases t with e | t
          · omega
          · have := (sp_E_in t).1
            omega
      · rw [sp_E_skip c]
        refine ⟨ih.1, fun z => ?_⟩
        rcases ih.2 z with q | ⟨y, y0, y1, y2, y3, y4⟩
        · exact Or.inl q
        · exact Or.inr ⟨y, by omega, by omega, y2, y3, y4⟩
/-- places that are out are passed over -/
theorem sp_E_gap : ∀ {j k : Nat} {p r : Int}, (∀ x, p ≤ x → x < p + j → ¬ C x) → j ≤ k → sp_E C w v k p r = sp_E C w v (k - j) (p + j) r
  | 0, k, p, r, _, _ => by
    rw [show p + ((0 : Nat) : Int) = p by omega]
    rfl
  | j + 1, 0, _, _, _, h => by omega
  | j + 1, k + 1, p, r, hg, h => by
    rw [sp_E_skip (fun c => hg p (by omega) (by omega) c.1), sp_E_gap (j := j) (k := k) (p := p + 1) (fun x a b => hg x (by omega) (by omega)) (by omega), show p + 1 + (j : Int) = p + ((j + 1 : Nat) : Int) by omega, show k + 1 - (j + 1) = k - j by omega]
/-- S comes before T: the lowest place that is in one alone is in S -/
def sp_lx (n : Int) (S T : Int → Prop) : Prop := ∃ y, 0 ≤ y ∧ y < n ∧ S y ∧ ¬ T y ∧ ∀ x, 0 ≤ x → x < y → (S x ↔ T x)
theorem sp_lx_trans {n : Int} {S T U : Int → Prop} (h : sp_lx n S T) (k : sp_lx n T U) : sp_lx n S U := by
  obtain ⟨y, y0, y1, y2, y3, y4⟩ := h
  obtain ⟨z, z0, z1, z2, z3, z4⟩ := k
  rcases Int.lt_trichotomy y z with q | q | q
  · exact ⟨y, y0, y1, y2, fun u => y3 ((z4 y y0 q).mpr u), fun x a b => (y4 x a b).trans (z4 x a (by omega))⟩
  · rw [q] at y3
    exact absurd z2 y3
  · exact ⟨z, z0, z1, (y4 z z0 q).mpr z2, z3, fun x a b => (y4 x a (by omega)).trans (z4 x a b)⟩
theorem sp_lx_asym {n : Int} {S T : Int → Prop} (h : sp_lx n S T) (k : sp_lx n T S) : False := by
  obtain ⟨y, y0, y1, y2, y3, y4⟩ := h
  obtain ⟨z, z0, z1, z2, z3, z4⟩ := k
  rcases Int.lt_trichotomy y z with q | q | q
  · exact y3 ((z4 y y0 q).mpr y2)
  · rw [q] at y3
    exact y3 z2
  · exact z3 ((y4 z z0 q).mpr z2)
/-- the best of all sets is that of sp_E -/
theorem sp_E_uniq (hw : ∀ x, C x → 0 ≤ w x) {k : Nat} {r : Int} {S : Int → Prop} (hr : 0 ≤ r) (hS : ∀ x, S x → 0 ≤ x ∧ x < k ∧ C x) (hSr : sp_tl (fun x => sp_if (S x) (w x)) k 0 ≤ r)
    (hm : ∀ T : Int → Prop, (∀ x, T x → 0 ≤ x ∧ x < k ∧ C x) → sp_tl (fun x => sp_if (T x) (w x)) k 0 ≤ r → sp_tl (fun x => sp_if (T x) (v x)) k 0 < sp_tl (fun x => sp_if (S x) (v x)) k 0 ∨ (sp_tl (fun x => sp_if (T x) (v x)) k 0 = sp_tl (fun x => sp_if (S x) (v x)) k 0 ∧ ((∀ x : Int, 0 ≤ x → x < k → (T x ↔ S x)) ∨ sp_lx k S T))) : (∀ x, S x ↔ (sp_E C w v k 0 r).2 x) ∧ sp_tl (fun x => sp_if (S x) (v x)) k 0 = (sp_E C w v k 0 r).1 := by
  have es := sp_E_sum (C := C) (w := w) (v := v) (k := k) (p := 0) hr
  have eo := sp_E_opt hw (v := v) (k := k) (p := 0) (r := r) (T := S) (fun x z => by have := hS x z; exact ⟨by omega, by omega, this.2.2⟩) hSr
  have em := hm (sp_E C w v k 0 r).2 (fun x z => by have := sp_E_in z; exact ⟨by omega, by omega, this.2.2⟩) es.1
  rw [es.2] at em
  have e1 : sp_tl (fun x => sp_if (S x) (v x)) k 0 = (sp_E C w v k 0 r).1 := by omega
  refine ⟨?_, e1⟩
  rcases eo.2 e1 with q | ⟨y, y0, y1, y2, y3, y4⟩
  · exact q
  · rcases em with em | ⟨_, em | em⟩
    · omega
    · exact absurd ((em y y0 (by omega)).mp y2) y3
    · exact (sp_lx_asym em ⟨y, y0, by omega, y2, y3, fun x a b => (y4 x b).symm⟩).elim
end
end

