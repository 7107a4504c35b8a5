/-! the invariant under changes; words of changes -/
section
/-- 1 if P holds, else 0 -/
noncomputable def sp_b (P : Prop) : Int := @ite Int P (Classical.propDecidable P) 1 0
theorem sp_bT {P : Prop} (h : P) : sp_b P = 1 := if_pos h
theorem sp_bF {P : Prop} (h : ¬ P) : sp_b P = 0 := if_neg h
theorem sp_b_rng (P : Prop) : 0 ≤ sp_b P ∧ sp_b P ≤ 1 := by
  rcases Classical.em P with h | h
  · rw [sp_bT h]; omega
  · rw [sp_bF h]; omega
/-- arrivals lie ahead -/
def sp_fut (g : Int → Int) : Prop := ∀ f, 0 ≤ f → f < g 3 → g (62 + f) = 0 ∨ g 0 < g (62 + f)
theorem sp_car_congr {g g' : Int → Int} {f : Int} (h : g 4 ≤ 10) (e4 : g' 4 = g 4) (e : ∀ p, 0 ≤ p → p < g 4 → sp_w g' f p = sp_w g f p) : sp_car g' f = sp_car g f := by
  unfold sp_car
  rw [e4]
  exact sp_sum_congr (fun i a b => e i a (by omega))
theorem sp_set_eq {g : Int → Int} {i v : Int} : sp_set g i v i = v := if_pos rfl
theorem sp_set_ne {g : Int → Int} {i v s : Int} (h : ¬ s = i) : sp_set g i v s = g s := if_neg h
/-- all but slots of P is as it was: the invariant's parts -/
theorem Inv.cha_to {g g' : Int → Int} {B : Int} (h : Inv g B) (e1 : g' 1 = g 1) (e2 : g' 2 = g 2) (e : ∀ s, 16 ≤ s → s < 56 → g' s = g s) : ∀ i, 0 ≤ i → i < g' 2 → 0 ≤ g' (16 + i) ∧ g' (16 + i) < g' 1 ∧ 0 ≤ g' (26 + i) ∧ g' (26 + i) < g' 1 ∧ ¬ g' (16 + i) = g' (26 + i) ∧ 1 ≤ g' (36 + i) ∧ g' (36 + i) ≤ 9 ∧ 0 ≤ g' (46 + i) ∧ g' (46 + i) ≤ 9 := fun i a b => by
  have h2 := h.ch
  rw [e2] at b
  rw [e (16 + i) (by omega) (by omega), e (26 + i) (by omega) (by omega), e (36 + i) (by omega) (by omega), e (46 + i) (by omega) (by omega), e1]
  exact h.cha i a b
theorem Inv.uni_to {g g' : Int → Int} {B : Int} (h : Inv g B) (e2 : g' 2 = g 2) (e : ∀ s, 16 ≤ s → s < 56 → g' s = g s) : ∀ i j, 0 ≤ i → i < j → j < g' 2 → ¬ sp_con g' (g' (16 + i)) (g' (26 + i)) j := fun i j a b d => by
  have h2 := h.ch
  rw [e2] at d
  unfold sp_con
  rw [e (16 + i) (by omega) (by omega), e (26 + i) (by omega) (by omega), e (16 + j) (by omega) (by omega), e (26 + j) (by omega) (by omega)]
  exact h.uni i j a b d
theorem Inv.dep_to {g g' : Int → Int} {B : Int} (h : Inv g B) (e1 : g' 1 = g 1) (e : ∀ s, 10 ≤ s → s < 16 → g' s = g s) : ∀ i, 0 ≤ i → i < g' 1 → 0 ≤ g' (10 + i) ∧ g' (10 + i) ≤ 9 := fun i a b => by
  have h2 := h.cr
  rw [e1] at b
  rw [e (10 + i) (by omega) (by omega)]
  exact h.dep i a b
theorem Inv.moo_to {g g' : Int → Int} {B : Int} (h : Inv g B) (e1 : g 1 ≤ g' 1) (e3 : g 3 ≤ g' 3) (e4 : g' 4 = g 4) (e5 : g 5 ≤ g' 5) (e : ∀ s, 71 ≤ s → s < 131 → g' s = g s) : ∀ p, 0 ≤ p → p < g' 4 → 0 ≤ g' (71 + p) ∧ g' (71 + p) < g' 5 ∧ 0 ≤ g' (81 + p) ∧ g' (81 + p) < g' 1 ∧ 0 ≤ g' (91 + p) ∧ g' (91 + p) < g' 1 ∧ 1 ≤ g' (101 + p) ∧ g' (101 + p) ≤ 40 ∧ 0 ≤ g' (111 + p) ∧ g' (111 + p) ≤ 7 ∧ ((0 ≤ g' (121 + p) ∧ g' (121 + p) < g' 1) ∨ (10 ≤ g' (121 + p) ∧ g' (121 + p) < 10 + g' 3)) := fun p a b => by
  have h2 := h.mo
  rw [e4] at b
  have h3 := h.moo p a b
  rw [e (71 + p) (by omega) (by omega), e (81 + p) (by omega) (by omega), e (91 + p) (by omega) (by omega), e (101 + p) (by omega) (by omega), e (111 + p) (by omega) (by omega), e (121 + p) (by omega) (by omega)]
  omega
theorem Inv.car_to {g g' : Int → Int} {B : Int} (h : Inv g B) (e3 : g' 3 = g 3) (e4 : g' 4 = g 4) (e : ∀ s, 68 ≤ s → s < 71 ∨ (101 ≤ s ∧ s < 111) ∨ (121 ≤ s ∧ s < 131) → g' s = g s) : ∀ f, 0 ≤ f → f < g' 3 → sp_car g' f ≤ g' (68 + f) := fun f a b => by
  have h2 := h.mo
  have h3 := h.fe
  rw [e3] at b
  rw [e (68 + f) (by omega) (by omega), sp_car_congr h2.2 e4 (fun p a b => by unfold sp_w; rw [e (121 + p) (by omega) (by omega), e (101 + p) (by omega) (by omega)])]
  exact h.car f a b
theorem Inv.zer_to {g g' : Int → Int} {B : Int} (h : Inv g B) (e3 : g' 3 = g 3) (e : ∀ s, 62 ≤ s → s < 65 → g' s = g s) : ∀ f, g' 3 ≤ f → f < 3 → g' (62 + f) = 0 := fun f a b => by
  have h3 := h.fe
  rw [e3] at a
  rw [e (62 + f) (by omega) (by omega)]
  exact h.zer f a b
theorem Inv.fer_to {g g' : Int → Int} {B : Int} (h : Inv g B) (e1 : g 1 ≤ g' 1) (e3 : g' 3 = g 3) (e0 : g' 0 = g 0) (e : ∀ s, 56 ≤ s → s < 71 → g' s = g s) : ∀ f, 0 ≤ f → f < g' 3 → 0 ≤ g' (56 + f) ∧ g' (56 + f) < g' 1 ∧ 1 ≤ g' (65 + f) ∧ g' (65 + f) ≤ 12 ∧ 1 ≤ g' (68 + f) ∧ g' (68 + f) ≤ 99 ∧ (g' (62 + f) = 0 ∨ (g' 0 ≤ g' (62 + f) ∧ 1 ≤ g' (62 + f) ∧ g' (62 + f) ≤ g' 0 + 9 ∧ 0 ≤ g' (59 + f) ∧ g' (59 + f) < g' 1)) := fun f a b => by
  have h3 := h.fe
  rw [e3] at b
  have h2 := h.fer f a b
  rw [e (56 + f) (by omega) (by omega), e (65 + f) (by omega) (by omega), e (68 + f) (by omega) (by omega), e (62 + f) (by omega) (by omega), e (59 + f) (by omega) (by omega), e0]
  omega
/-! an hour passes -/
def sp_pha (g : Int → Int) : Int → Int := fun s => if 111 ≤ s ∧ s < 111 + g 4 then (g s + 1) % 8 else g s
def sp_h0 (g : Int → Int) : Int → Int := if (g 0 + 1) % 24 = 0 then sp_pha (sp_set g 0 (g 0 + 1)) else sp_set g 0 (g 0 + 1)
def sp_not (g : Int → Int) (f : Int) : Int → Int := fun s => if s = 8 then g 8 + 1 else if 131 ≤ s ∧ s < 161 then (if s = 131 then f else if s = 141 then g (56 + f) else if s = 151 then g 0 else g (s - 1)) else g s
def sp_arr (g : Int → Int) (f : Int) : Int → Int := sp_not (sp_set g (62 + f) 0) f
noncomputable def sp_stp (g : Int → Int) (f : Int) : Int → Int := sp_set (sp_arr g f) 9 (g 9 + sp_b (sp_stk (sp_arr g f) f))
noncomputable def sp_hr (g : Int → Int) : Nat → (Int → Int) × Int
  | 0 => (g, 0)
  | n + 1 => if 0 < (sp_hr g n).1 (62 + n) ∧ (sp_hr g n).1 (62 + n) = (sp_hr g n).1 0 then (sp_stp (sp_hr g n).1 n, (sp_hr g n).2 + 1) else sp_hr g n
noncomputable def sp_hour (g : Int → Int) : (Int → Int) × Int := sp_hr (sp_h0 g) (g 3).toNat
noncomputable def sp_pass (g : Int → Int) : Nat → (Int → Int) × Int
  | 0 => (g, 0)
  | n + 1 => ((sp_hour (sp_pass g n).1).1, (sp_pass g n).2 + (sp_hour (sp_pass g n).1).2)
theorem sp_h0_0 {g : Int → Int} : sp_h0 g 0 = g 0 + 1 := by
  unfold sp_h0
  split
  · unfold sp_pha
    rw [if_neg (by omega), sp_set_eq]
  · rw [sp_set_eq]
theorem sp_h0_s {g : Int → Int} {s : Int} (h : ¬ s = 0) (h2 : ¬ (111 ≤ s ∧ s < 111 + g 4)) : sp_h0 g s = g s := by
  unfold sp_h0
  split
  · unfold sp_pha
    rw [sp_set_ne (g := g) (s := 4) (by omega), if_neg h2, sp_set_ne h]
  · rw [sp_set_ne h]
theorem sp_h0_p {g : Int → Int} {s : Int} (h2 : 111 ≤ s ∧ s < 111 + g 4) (h3 : 0 ≤ g s ∧ g s ≤ 7) : 0 ≤ sp_h0 g s ∧ sp_h0 g s ≤ 7 := by
  unfold sp_h0
  split
  · unfold sp_pha
    rw [sp_set_ne (g := g) (s := 4) (by omega), if_pos h2]
    omega
  · rw [sp_set_ne (by omega)]
    exact h3
theorem inv_h0 {g : Int → Int} {B : Int} (h : Inv g B) (hF : sp_fut g) (hB : B + 1 ≤ 4000000) : Inv (sp_h0 g) (B + 1) := by
  have e : ∀ s, ¬ s = 0 → ¬ (111 ≤ s ∧ s < 121) → sp_h0 g s = g s := fun s a b => sp_h0_s a (by have := h.mo; omega)
  have h0 := h.ho
  have hb := h.bd
  have e1 := e 1 (by omega) (by omega)
  have e2 := e 2 (by omega) (by omega)
  have e3 := e 3 (by omega) (by omega)
  have e4 := e 4 (by omega) (by omega)
  have e5 := e 5 (by omega) (by omega)
  have e6 := e 6 (by omega) (by omega)
  have e7 := e 7 (by omega) (by omega)
  have e8 := e 8 (by omega) (by omega)
  have e9 := e 9 (by omega) (by omega)
  refine ⟨by omega, ?_, ?_, ?_, ?_, ?_, ?_, ?_, ?_, ?_, ?_, h.dep_to e1 (fun s a b => e s (by omega) (by omega)), h.cha_to e1 e2 (fun s a b => e s (by omega) (by omega)), h.uni_to e2 (fun s a b => e s (by omega) (by omega)), fun f a b => ?_, fun p a b => ?_, h.car_to e3 e4 (fun s a b => e s (by omega) (by omega)), h.zer_to e3 (fun s a b => e s (by omega) (by omega))⟩
  · rw [sp_h0_0]; omega
  · rw [e1]; exact h.cr
  · rw [e2]; exact h.ch
  · rw [e3]; exact h.fe
  · rw [e4]; exact h.mo
  · rw [e5]; have := h.nx; omega
  · rw [e6]; have := h.fa; omega
  · rw [e7]; have := h.re; omega
  · rw [e8]; have := h.pa; omega
  · rw [e9]; have := h.sn; omega
  · rw [e3] at b
    have k1 := h.fer f a b
    have k2 := hF f a b
    have k3 := h.fe
    rw [e (56 + f) (by omega) (by omega), e (65 + f) (by omega) (by omega), e (68 + f) (by omega) (by omega), e (62 + f) (by omega) (by omega), e (59 + f) (by omega) (by omega), e1, sp_h0_0]
    omega
  · rw [e4] at b
    have k1 := h.moo p a b
    have k3 := h.mo
    have k4 := sp_h0_p (g := g) (s := 111 + p) (by omega) (by omega)
    rw [e (71 + p) (by omega) (by omega), e (81 + p) (by omega) (by omega), e (91 + p) (by omega) (by omega), e (101 + p) (by omega) (by omega), e (121 + p) (by omega) (by omega), e1, e3, e5]
    omega
theorem sp_stp_s {g : Int → Int} {f s : Int} (h : ¬ s = 62 + f) (h8 : ¬ s = 8) (h9 : ¬ s = 9) (h2 : s < 131) : sp_stp g f s = g s := by
  unfold sp_stp sp_arr sp_not
  rw [sp_set_ne h9, if_neg h8, if_neg (by omega), sp_set_ne h]
theorem sp_stp_f {g : Int → Int} {f : Int} (h : 0 ≤ f ∧ f < 3) : sp_stp g f (62 + f) = 0 := by
  unfold sp_stp sp_arr sp_not
  rw [sp_set_ne (by omega), if_neg (by omega), if_neg (by omega), sp_set_eq]
theorem sp_stp_8 {g : Int → Int} {f : Int} (h : 0 ≤ f ∧ f < 3) : sp_stp g f 8 = g 8 + 1 := by
  unfold sp_stp sp_arr sp_not
  rw [sp_set_ne (by omega), if_pos rfl, sp_set_ne (by omega)]
theorem sp_stp_9 {g : Int → Int} {f : Int} : g 9 ≤ sp_stp g f 9 ∧ sp_stp g f 9 ≤ g 9 + 1 := by
  have := sp_b_rng (sp_stk (sp_arr g f) f)
  unfold sp_stp
  rw [sp_set_eq]
  omega
theorem inv_stp {g : Int → Int} {B f : Int} (h : Inv g B) (hf : 0 ≤ f ∧ f < g 3) (hB : B + 1 ≤ 4000000) : Inv (sp_stp g f) (B + 1) := by
  have k3 := h.fe
  have e : ∀ s, ¬ s = 62 + f → ¬ s = 8 → ¬ s = 9 → s < 131 → sp_stp g f s = g s := fun s a b d e => sp_stp_s a b d e
  have hb := h.bd
  have e0 := e 0 (by omega) (by omega) (by omega) (by omega)
  have e1 := e 1 (by omega) (by omega) (by omega) (by omega)
  have e2 := e 2 (by omega) (by omega) (by omega) (by omega)
  have e3 := e 3 (by omega) (by omega) (by omega) (by omega)
  have e4 := e 4 (by omega) (by omega) (by omega) (by omega)
  have e5 := e 5 (by omega) (by omega) (by omega) (by omega)
  have e6 := e 6 (by omega) (by omega) (by omega) (by omega)
  have e7 := e 7 (by omega) (by omega) (by omega) (by omega)
  have e8 := sp_stp_8 (g := g) (f := f) (by omega)
  have e9 := sp_stp_9 (g := g) (f := f)
  refine ⟨by omega, ?_, ?_, ?_, ?_, ?_, ?_, ?_, ?_, ?_, ?_, h.dep_to e1 (fun s a b => e s (by omega) (by omega) (by omega) (by omega)), h.cha_to e1 e2 (fun s a b => e s (by omega) (by omega) (by omega) (by omega)), h.uni_to e2 (fun s a b => e s (by omega) (by omega) (by omega) (by omega)), fun i a b => ?_, h.moo_to (by omega) (by omega) e4 (by omega) (fun s a b => e s (by omega) (by omega) (by omega) (by omega)), h.car_to e3 e4 (fun s a b => e s (by omega) (by omega) (by omega) (by omega)), fun i a b => by rw [e3] at a; rw [e (62 + i) (by omega) (by omega) (by omega) (by omega)]; exact h.zer i a b⟩
  · rw [e0]; have := h.ho; omega
  · rw [e1]; exact h.cr
  · rw [e2]; exact h.ch
  · rw [e3]; exact h.fe
  · rw [e4]; exact h.mo
  · rw [e5]; have := h.nx; omega
  · rw [e6]; have := h.fa; omega
  · rw [e7]; have := h.re; omega
  · rw [e8]; have := h.pa; omega
  · have := h.sn; omega
  · rw [e3] at b
    have k1 := h.fer i a b
    by_cases z : i = f
    · subst z
      rw [sp_stp_f (by omega), e (56 + i) (by omega) (by omega) (by omega) (by omega), e (65 + i) (by omega) (by omega) (by omega) (by omega), e (68 + i) (by omega) (by omega) (by omega) (by omega), e1]
      omega
    · rw [e (56 + i) (by omega) (by omega) (by omega) (by omega), e (65 + i) (by omega) (by omega) (by omega) (by omega), e (68 + i) (by omega) (by omega) (by omega) (by omega), e (62 + i) (by omega) (by omega) (by omega) (by omega), e (59 + i) (by omega) (by omega) (by omega) (by omega), e1, e0]
      omega
theorem sp_hr_keep {g : Int → Int} {n : Nat} (hn : n ≤ 3) : (sp_hr g n).1 0 = g 0 ∧ (sp_hr g n).1 3 = g 3 ∧ 0 ≤ (sp_hr g n).2 ∧ (sp_hr g n).2 ≤ n ∧ (∀ f : Int, n ≤ f → f < 3 → (sp_hr g n).1 (62 + f) = g (62 + f)) ∧ (∀ f : Int, 0 ≤ f → f < n → ¬ ((0 < (sp_hr g n).1 (62 + f)) ∧ (sp_hr g n).1 (62 + f) = (sp_hr g n).1 0)) ∧ (∀ f : Int, 0 ≤ f → f < 3 → (sp_hr g n).1 (62 + f) = 0 ∨ (sp_hr g n).1 (62 + f) = g (62 + f)) := by
  induction n with
  | zero => exact ⟨rfl, rfl, by simp [sp_hr], by simp [sp_hr], fun f a b => rfl, fun f a b => by omega, fun f a b => Or.inr rfl⟩
  | succ n ih =>
    obtain ⟨h1, h2, h3, h4, h5, h6, h7⟩ := ih (by omega)
    unfold sp_hr
    split
    · rename_i q
      have e : ∀ s, ¬ s = 62 + (n : Int) → ¬ s = 8 → ¬ s = 9 → s < 131 → sp_stp (sp_hr g n).1 n s = (sp_hr g n).1 s := fun s a b d e => sp_stp_s a b d e
      dsimp only
      refine ⟨?_, ?_, by omega, by omega, fun f a b => ?_, fun f a b => ?_, fun f a b => ?_⟩
      · rw [e 0 (by omega) (by omega) (by omega) (by omega)]; exact h1
      · rw [e 3 (by omega) (by omega) (by omega) (by omega)]; exact h2
      · rw [e (62 + f) (by omega) (by omega) (by omega) (by omega)]; exact h5 f (by omega) b
      · by_cases z : f = n
        · subst z
          rw [sp_stp_f (by omega)]
          omega
        · rw [e (62 + f) (by omega) (by omega) (by omega) (by omega), e 0 (by omega) (by omega) (by omega) (by omega)]
          exact h6 f a (by omega)
      · by_cases z : f = n
        · subst z
          exact Or.inl (sp_stp_f (by omega))
        · rw [e (62 + f) (by omega) (by omega) (by omega) (by omega)]
          exact h7 f a b
    · rename_i q
      refine ⟨h1, h2, h3, by omega, fun f a b => h5 f (by omega) b, fun f a b => ?_, h7⟩
      by_cases z : f = n
      · subst z
        exact q
      · exact h6 f a (by omega)
theorem inv_hr {g : Int → Int} {B : Int} (h : Inv g B) {n : Nat} (hn : n ≤ g 3) (hB : B + n ≤ 4000000) : Inv (sp_hr g n).1 (B + n) := by
  induction n with
  | zero => simpa [sp_hr] using h
  | succ n ih =>
    have k3 := h.fe
    have ih := ih (by omega) (by omega)
    have kk := sp_hr_keep (g := g) (n := n) (by omega)
    unfold sp_hr
    split
    · have := inv_stp (f := n) ih (by omega) (by omega)
      rw [show B + ((n + 1 : Nat) : Int) = B + n + 1 by omega]
      exact this
    · refine ⟨by have := ih.bd; omega, by have := ih.ho; omega, ih.cr, ih.ch, ih.fe, ih.mo, by have := ih.nx; omega, by have := ih.fa; omega, by have := ih.re; omega, by have := ih.pa; omega, by have := ih.sn; omega, ih.dep, ih.cha, ih.uni, ih.fer, ih.moo, ih.car, ih.zer⟩
theorem Inv.mono {g : Int → Int} {B B' : Int} (h : Inv g B) (hb : B ≤ B') (hB : B' ≤ 4000000) : Inv g B' := ⟨by have := h.bd; omega, by have := h.ho; omega, h.cr, h.ch, h.fe, h.mo, by have := h.nx; omega, by have := h.fa; omega, by have := h.re; omega, by have := h.pa; omega, by have := h.sn; omega, h.dep, h.cha, h.uni, h.fer, h.moo, h.car, h.zer⟩
theorem inv_hour {g : Int → Int} {B : Int} (h : Inv g B) (hF : sp_fut g) (hB : B + 4 ≤ 4000000) : Inv (sp_hour g).1 (B + 4) ∧ sp_fut (sp_hour g).1 ∧ 0 ≤ (sp_hour g).2 ∧ (sp_hour g).2 ≤ 3 ∧ (sp_hour g).1 3 = g 3 := by
  have k3 := h.fe
  have e3 : sp_h0 g 3 = g 3 := sp_h0_s (by omega) (by omega)
  have h1 := inv_h0 h hF (by omega)
  have h2 := inv_hr h1 (n := (g 3).toNat) (by omega) (by omega)
  have kk := sp_hr_keep (g := sp_h0 g) (n := (g 3).toNat) (by omega)
  refine ⟨Inv.mono h2 (by omega) hB, fun f a b => ?_, kk.2.2.1, by have := kk.2.2.2.1; unfold sp_hour; omega, kk.2.1.trans e3⟩
  unfold sp_hour at b ⊢
  rw [kk.2.1, e3] at b
  have q1 := kk.2.2.2.2.2.1 f a (by omega)
  have q2 := h2.fer f a (by rw [kk.2.1, e3]; exact b)
  omega
end

