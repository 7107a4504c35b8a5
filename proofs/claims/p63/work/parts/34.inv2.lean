/-! more of the invariant -/
section
theorem Inv.set_c {g : Int → Int} {B i v : Int} (h : Inv g B) (hi : i = 7 ∨ i = 8 ∨ i = 9) (hv : 0 ≤ v ∧ v ≤ B) : Inv (sp_set g i v) B := by
  have e : ∀ s, ¬ (7 ≤ s ∧ s ≤ 9) → sp_set g i v s = g s := fun s a => sp_set_ne (by omega)
  have c : ∀ s, 0 ≤ g s ∧ g s ≤ B → 0 ≤ sp_set g i v s ∧ sp_set g i v s ≤ B := fun s a => by
    unfold sp_set
    split <;> omega
  have e0 := e 0 (by omega)
  have e1 := e 1 (by omega)
  have e2 := e 2 (by omega)
  have e3 := e 3 (by omega)
  have e4 := e 4 (by omega)
  have e5 := e 5 (by omega)
  refine ⟨h.bd, by rw [e0]; exact h.ho, by rw [e1]; exact h.cr, by rw [e2]; exact h.ch, by rw [e3]; exact h.fe, by rw [e4]; exact h.mo, by rw [e5]; exact h.nx, by rw [e 6 (by omega)]; exact h.fa, c 7 h.re, c 8 h.pa, c 9 h.sn, h.dep_to e1 (fun s a b => e s (by omega)), h.cha_to e1 e2 (fun s a b => e s (by omega)), h.uni_to e2 (fun s a b => e s (by omega)), h.fer_to (by omega) e3 e0 (fun s a b => e s (by omega)), h.moo_to (by omega) (by omega) e4 (by omega) (fun s a b => e s (by omega)), h.car_to e3 e4 (fun s a b => e s (by omega)), h.zer_to e3 (fun s a b => e s (by omega))⟩
theorem sp_arr_stp {g : Int → Int} {f : Int} : sp_arr g f = sp_set (sp_stp g f) 9 (sp_arr g f 9) := by
  funext s
  unfold sp_stp
  by_cases h : s = 9
  · subst h
    rw [sp_set_eq]
  · rw [sp_set_ne h, sp_set_ne h]
theorem sp_arr_s {g : Int → Int} {f s : Int} (h : ¬ s = 62 + f) (h8 : ¬ s = 8) (h2 : s < 131) : sp_arr g f s = g s := by
  unfold sp_arr sp_not
  rw [if_neg h8, if_neg (by omega), sp_set_ne h]
theorem inv_arr {g : Int → Int} {B f : Int} (h : Inv g B) (hf : 0 ≤ f ∧ f < g 3) (hB : B + 1 ≤ 4000000) : Inv (sp_arr g f) (B + 1) := by
  rw [sp_arr_stp]
  refine (inv_stp h hf hB).set_c (Or.inr (Or.inr rfl)) ?_
  have := h.sn
  rw [sp_arr_s (by omega) (by omega) (by omega)]
  omega
end

