/-! the known example: nets, arrivals, ranks, lines, texts -/
theorem z_net {g : Int → Int} {a t : Int} (h1 : g 1 = 3) (h2 : g 2 = 2) (c0 : g (16 + 0) = 0) (c1 : g (26 + 0) = 1) (c2 : g (16 + 1) = 1) (c3 : g (26 + 1) = 2) (l0 : g (36 + 0) = a) (l1 : g (36 + 1) = 3) : sp_nt g t = 3 - (if a ≤ t then 1 else 0) - (if 3 ≤ t then 1 else 0) := by
  have ed : ∀ e x y, 0 ≤ e → e < g 2 → sp_con g x y e → (e = 0 ∧ ((x = 0 ∧ y = 1) ∨ (x = 1 ∧ y = 0))) ∨ (e = 1 ∧ ((x = 1 ∧ y = 2) ∨ (x = 2 ∧ y = 1))) := fun e x y e0 e1 h => by
    rw [h2] at e1
    unfold sp_con at h
    rcases (show e = 0 ∨ e = 1 by omega) with z | z
    · rw [z] at h
      left
      refine ⟨z, ?_⟩
      omega
    · rw [z] at h
      right
      refine ⟨z, ?_⟩
      omega
  have k01 : sp_cn g (fun e => g (36 + e) ≤ t) 0 1 ↔ a ≤ t := by
    constructor
    · intro h
      refine Classical.byContradiction fun n => ?_
      have := sp_cn_keep (R := fun z => z = 0) (fun e x y e0 e1 e2 e3 e4 => by
        rcases ed e x y e0 e1 e3 with z | z
        · rw [z.1, l0] at e2
          exact absurd e2 n
        · omega) h rfl
      exact absurd this (by decide)
    · intro h
      exact sp_cn_edge (e := 0) (Int.le_refl _) (by omega) (by show g (36 + 0) ≤ t; omega) (Or.inl ⟨c0, c1⟩)
  have n2 : ¬ 3 ≤ t → ∀ u, ¬ u = 2 → ¬ sp_cn g (fun e => g (36 + e) ≤ t) u 2 := fun n u hu h => by
    have := sp_cn_keep (R := fun z => ¬ z = 2) (fun e x y e0 e1 e2 e3 e4 => by
      rcases ed e x y e0 e1 e3 with z | z
      · omega
      · rw [z.1, l1] at e2
        exact absurd e2 n) h hu
    exact this rfl
  unfold sp_nt sp_np
  rw [h1]
  show (0 + sp_b (sp_rep _ ((0 : Nat) : Int)) + sp_b (sp_rep _ ((1 : Nat) : Int))) + sp_b (sp_rep _ ((2 : Nat) : Int)) = _
  rw [sp_bT (P := sp_rep _ ((0 : Nat) : Int)) (fun u u0 u1 => by omega)]
  have r1 : sp_b (sp_rep (sp_cn g (fun e => g (36 + e) ≤ t)) ((1 : Nat) : Int)) = 1 - (if a ≤ t then 1 else 0) := by
    by_cases q : a ≤ t
    · rw [if_pos q, sp_bF (P := sp_rep (sp_cn g (fun e => g (36 + e) ≤ t)) ((1 : Nat) : Int)) (fun h => h 0 (by omega) (by omega) (k01.mpr q))]
      rfl
    · rw [if_neg q, sp_bT (P := sp_rep (sp_cn g (fun e => g (36 + e) ≤ t)) ((1 : Nat) : Int)) (fun u u0 u1 h => by
        rw [show u = 0 by omega] at h
        exact q (k01.mp h))]
      rfl
  have r2 : sp_b (sp_rep (sp_cn g (fun e => g (36 + e) ≤ t)) ((2 : Nat) : Int)) = 1 - (if 3 ≤ t then 1 else 0) := by
    by_cases q : 3 ≤ t
    · rw [if_pos q, sp_bF (P := sp_rep (sp_cn g (fun e => g (36 + e) ≤ t)) ((2 : Nat) : Int)) (fun h => h 1 (by omega) (by omega) (sp_cn_edge (e := 1) (by omega) (by omega) (by show g (36 + 1) ≤ t; omega) (Or.inl ⟨c2, c3⟩)))]
      rfl
    · rw [if_neg q, sp_bT (P := sp_rep (sp_cn g (fun e => g (36 + e) ≤ t)) ((2 : Nat) : Int)) (fun u u0 u1 h => n2 q u (by omega) h)]
      rfl
  rw [r1, r2]
  omega
section
variable {k j : Nat} {B : Int}
theorem z_nt1 {t : Int} : sp_nt (zt (z1l k j)) t = 3 - (if (k : Int) + 1 ≤ t then 1 else 0) - (if 3 ≤ t then 1 else 0) :=
  z_net (zt_at 1 rfl (by decide) rfl) (zt_at 2 rfl (by decide) rfl) (zt_at 16 rfl (by decide) rfl) (zt_at 26 rfl (by decide) rfl) (zt_at 17 rfl (by decide) rfl) (zt_at 27 rfl (by decide) rfl) (zt_at 36 rfl (by decide) rfl) (zt_at 37 rfl (by decide) rfl)
theorem z_n1 (hk : k < 4) : sp_nt (zt (z1l k j)) 9 = 1 ∧ sp_nsum (zt (z1l k j)) = (k : Int) + 4 := by
  have e9 : sp_nt (zt (z1l k j)) 9 = 1 := by
    rw [z_nt1, if_pos (by omega), if_pos (by omega)]
    rfl
  refine ⟨e9, ?_⟩
  unfold sp_nsum
  rw [e9, sp_sum_congr (h := fun t => 3 - (if (k : Int) + 1 ≤ t then 1 else 0) - (if 3 ≤ t then 1 else 0) - 1) (fun t _ _ => by rw [z_nt1])]
  rcases (show k = 0 ∨ k = 1 ∨ k = 2 ∨ k = 3 by omega) with z | z | z | z <;> rw [z] <;> decide
theorem z_n0 {g : Int → Int} (h1 : g 1 = 0) : sp_nt g 9 = 0 ∧ sp_nsum g = 0 := by
  have e : ∀ t, sp_nt g t = 0 := fun t => by
    unfold sp_nt
    rw [h1]
    rfl
  refine ⟨e 9, ?_⟩
  unfold sp_nsum
  rw [sp_sum_congr (h := fun _ => 0) (fun t _ _ => by rw [e, e]; rfl)]
  decide
/-! arrivals -/
theorem z_rc : ∀ {n : Nat} {v t : Int}, sp_rc (zt (z2l k j)) 0 n v t → 0 ≤ t ∧ (v = 0 ∨ (k : Int) + 2 ≤ t)
  | 0, v, t, h => by
    have e0 : zt (z2l k j) 0 = 0 := zt_at 0 rfl (by decide) rfl
    have e56 : zt (z2l k j) (56 + 0) = 0 := zt_at 56 rfl (by decide) rfl
    have e62 : zt (z2l k j) (62 + 0) = 0 := zt_at 62 rfl (by decide) rfl
    have h1 := h.1
    have h2 := h.2
    unfold sp_t0 at h2
    rw [e62, e0] at h2
    rw [e56] at h1
    rw [if_neg (by decide)] at h2
    exact ⟨h2, Or.inl h1⟩
  | n + 1, v, t, ⟨d, u, s, d0, d1, hc, hr, hg, hs⟩ => by
    have i := z_rc hr
    have e2 : zt (z2l k j) 2 = 2 := zt_at 2 rfl (by decide) rfl
    have a0 : zt (z2l k j) (16 + 0) = 0 := zt_at 16 rfl (by decide) rfl
    have a1 : zt (z2l k j) (26 + 0) = 1 := zt_at 26 rfl (by decide) rfl
    have a2 : zt (z2l k j) (16 + 1) = 1 := zt_at 17 rfl (by decide) rfl
    have a3 : zt (z2l k j) (26 + 1) = 2 := zt_at 27 rfl (by decide) rfl
    have b0 : zt (z2l k j) (36 + 0) = (k : Int) + 1 := zt_at 36 rfl (by decide) rfl
    have b1 : zt (z2l k j) (36 + 1) = 3 := zt_at 37 rfl (by decide) rfl
    rw [e2] at d1
    by_cases z : u = 0
    · have q := hg.1
      rw [z] at q
      have p0 : zt (z2l k j) (10 + 0) = 4 := zt_at 10 rfl (by decide) rfl
      have p5 : zt (z2l k j) (65 + 0) = 5 := zt_at 65 rfl (by decide) rfl
      unfold sp_low at q
      rw [p0, p5] at q
      have s1 : 1 ≤ s := by
        refine Classical.byContradiction fun y => q ?_
        rw [show s = 0 by omega]
        decide
      rcases (show d = 0 ∨ d = 1 by omega) with y | y
      · rw [y, b0] at hs
        exact ⟨by omega, Or.inr (by omega)⟩
      · rw [y, z] at hc
        unfold sp_con at hc
        omega
    · have l : 1 ≤ zt (z2l k j) (36 + d) := by
        rcases (show d = 0 ∨ d = 1 by omega) with y | y <;> rw [y] <;> omega
      exact ⟨by omega, Or.inr (by omega)⟩
theorem z_ea0 : sp_ea (zt (z2l k j)) 0 0 0 := by
  have e0 : zt (z2l k j) 0 = 0 := zt_at 0 rfl (by decide) rfl
  have e56 : zt (z2l k j) (56 + 0) = 0 := zt_at 56 rfl (by decide) rfl
  have e62 : zt (z2l k j) (62 + 0) = 0 := zt_at 62 rfl (by decide) rfl
  refine ⟨⟨0, e56.symm, ?_⟩, fun t ⟨n, h⟩ => (z_rc h).1⟩
  unfold sp_t0
  rw [e62, e0]
  decide
theorem z_ea1 : sp_ea (zt (z2l k j)) 0 1 ((k : Int) + 2) := by
  have e0 : zt (z2l k j) 0 = 0 := zt_at 0 rfl (by decide) rfl
  have e56 : zt (z2l k j) (56 + 0) = 0 := zt_at 56 rfl (by decide) rfl
  have e62 : zt (z2l k j) (62 + 0) = 0 := zt_at 62 rfl (by decide) rfl
  have e2 : zt (z2l k j) 2 = 2 := zt_at 2 rfl (by decide) rfl
  have a0 : zt (z2l k j) (16 + 0) = 0 := zt_at 16 rfl (by decide) rfl
  have a1 : zt (z2l k j) (26 + 0) = 1 := zt_at 26 rfl (by decide) rfl
  have b0 : zt (z2l k j) (36 + 0) = (k : Int) + 1 := zt_at 36 rfl (by decide) rfl
  have p0 : zt (z2l k j) (10 + 0) = 4 := zt_at 10 rfl (by decide) rfl
  have p5 : zt (z2l k j) (65 + 0) = 5 := zt_at 65 rfl (by decide) rfl
  have s5 : zt (z2l k j) (46 + 0) = 5 := zt_at 46 rfl (by decide) rfl
  refine ⟨⟨1, 0, 0, 1, Int.le_refl _, by omega, Or.inl ⟨a0, a1⟩, ⟨e56.symm, ?_⟩, ⟨?_, ?_⟩, by rw [b0]; omega⟩, fun t ⟨n, h⟩ => by
    have := (z_rc h).2
    omega⟩
  · unfold sp_t0
    rw [e62, e0]
    decide
  · unfold sp_low
    rw [p0, p5]
    decide
  · unfold sp_opn
    rw [p5, s5]
    decide
end
/-! ranks, sums, lines -/
def c_ah (g : Int → Int) (p i : Int) : Int := if c_fare g p < c_fare g i ∨ (c_fare g i = c_fare g p ∧ i < p) then 1 else 0
def c_rank (g : Int → Int) (p : Int) : Int := sp_sum (c_ah g p) (g 4).toNat
theorem c_rank_eq (g : Int → Int) (p : Int) : sp_rank g p = c_rank g p := by
  unfold sp_rank c_rank
  refine sp_sum_congr (fun i _ _ => ?_)
  unfold sp_ah c_ah
  rw [c_fare_eq]
def c_at (g : Int → Int) (x : Int) : Int := c_find (fun p => decide (c_rank g p = x)) (g 4).toNat
theorem c_at_ok (g : Int → Int) (x : Int) : sp_first (fun p => sp_rank g p = x) (g 4) (c_at g x) := c_find_ok (fun p => by rw [c_rank_eq]; exact decide_eq_true_iff)
def c_less (g : Int → Int) (x : Int) : Int := sp_sum (fun p => if c_fare g p < x then 1 else 0) (g 4).toNat
theorem c_less_eq (g : Int → Int) (x : Int) : sp_less g x (g 4).toNat = c_less g x := by
  unfold sp_less c_less
  rw [c_fare_eq]
theorem c_cl_eq (g : Int → Int) (x : Int) : sp_cl (sp_fare g) x (g 4).toNat = c_less g x := by
  unfold sp_cl c_less
  rw [c_fare_eq]
def c_lpos (g : Int → Int) (f : Int) (P : Int × (Int → Int)) : Int × (Int → Int) :=
  if 0 < g (62 + f) then sp_aN (g (62 + f) - g 0) (sp_aC 120 (sp_aN (g (56 + f)) (sp_aC 62 P))) else if c_sS g f = 1 then sp_aC 33 (sp_aN (g (56 + f)) (sp_aC 64 P)) else sp_aN (g (56 + f)) (sp_aC 64 P)
def c_line (g : Int → Int) (f : Int) : Int × (Int → Int) := sp_lmo g f (c_lpos g f (sp_aN f (0, fun _ => 0))) (g 4).toNat
theorem c_line_eq (g : Int → Int) (f : Int) : sp_line g f (fun _ => 0) = c_line g f := by
  unfold sp_line c_line sp_lpos c_lpos
  rw [c_sS_eq]
def c_lineIs (g : Int → Int) (f : Int) (l : List Int) : Bool := decide ((c_line g f).1 = l.length) && (List.range l.length).all (fun i => decide ((c_line g f).2 (i : Int) = l.getD i 0))
theorem c_lineIs_ok {g : Int → Int} {f : Int} {l : List Int} (h : c_lineIs g f l = true) {q : Int → Int} : (sp_line g f q).1 = l.length ∧ ∀ i, i < l.length → (sp_line g f q).2 (i : Int) = l.getD i 0 := by
  have h1 := (Bool.and_eq_true _ _).mp h
  have e := sp_le2_line (g := g) (f := f) (l := q) (l' := fun _ => 0)
  rw [c_line_eq] at e
  have e1 : (c_line g f).1 = l.length := of_decide_eq_true h1.1
  refine ⟨e.1.trans e1, fun i hi => ?_⟩
  have := e.2 i (by omega) (by have := e.1; omega)
  rw [this.1]
  exact of_decide_eq_true (List.all_eq_true.mp h1.2 i (List.mem_range.mpr hi))
def z_r2F (k j : Nat) : Bool := decide (c_at (zt (z2l k j)) 0 = 0 ∧ c_at (zt (z2l k j)) 2 = 2 ∧ c_less (zt (z2l k j)) (3 * ((k : Int) + 4)) = 1)
theorem z_r2 : z_all z_r2F = true := by decide +kernel
def z_q10F (k j : Nat) : Bool := decide (c_fare (zt (z10l k j)) 0 = 5 * ((k : Int) + 4))
theorem z_q10 : z_all z_q10F = true := by decide +kernel
def z_lnF (k j : Nat) : Bool := c_lineIs (zt (z5l k j)) 0 (ts_28 ++ (dg (k + 1) ++ ts_29))
theorem z_ln : z_all z_lnF = true := by decide +kernel
