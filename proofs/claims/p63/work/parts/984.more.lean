/-! the known example: texts, loads, landings, days -/
section
variable {k j : Nat}
def z1al (k j : Nat) : List Int := [0, 3, 2, 1, 0, 0, 0, 0, 0, 0, 4, 3, 9, 0, 0, 0, 0, 1, 0, 0, 0, 0, 0, 0, 0, 0, 1, 2, 0, 0, 0, 0, 0, 0, 0, 0, (k : Int) + 1, 3, 0, 0, 0, 0, 0, 0, 0, 0, 5, 9, 0, 0, 0, 0, 0, 0, 0, 0, 0, 0, 0, 0, 0, 0, 0, 0, 0, 5, 0, 0, 40, 0, 0, 0, 0, 0, 0, 0, 0, 0, 0, 0, 0, 0, 0, 0, 0, 0, 0, 0, 0, 0, 0, 0, 0, 0, 0, 0, 0, 0, 0, 0, 0, 0, 0, 0, 0, 0, 0, 0, 0, 0, 0, 0, 0, 0, 0, 0, 0, 0, 0, 0, 0, 0, 0, 0, 0, 0, 0, 0, 0, 0, 0, 0, 0, 0, 0, 0, 0, 0, 0, 0, 0, 0, 0, 0, 0, 0, 0, 0, 0, 0, 0, 0, 0, 0, 0, 0, 0, 0, 0, 0, 0]
theorem z1a_len : (z1al k j).length = 161 := by
  unfold z1al
  simp only [List.length_cons, List.length_nil, Nat.reduceAdd]
def z1bl (k j : Nat) : List Int := [0, 3, 2, 1, 1, 1, 0, 0, 0, 0, 4, 3, 9, 0, 0, 0, 0, 1, 0, 0, 0, 0, 0, 0, 0, 0, 1, 2, 0, 0, 0, 0, 0, 0, 0, 0, (k : Int) + 1, 3, 0, 0, 0, 0, 0, 0, 0, 0, 5, 9, 0, 0, 0, 0, 0, 0, 0, 0, 0, 0, 0, 0, 0, 0, 0, 0, 0, 5, 0, 0, 40, 0, 0, 0, 0, 0, 0, 0, 0, 0, 0, 0, 0, 0, 0, 0, 0, 0, 0, 0, 0, 0, 0, 2, 0, 0, 0, 0, 0, 0, 0, 0, 0, (j : Int) + 1, 0, 0, 0, 0, 0, 0, 0, 0, 0, 4, 0, 0, 0, 0, 0, 0, 0, 0, 0, 0, 0, 0, 0, 0, 0, 0, 0, 0, 0, 0, 0, 0, 0, 0, 0, 0, 0, 0, 0, 0, 0, 0, 0, 0, 0, 0, 0, 0, 0, 0, 0, 0, 0, 0, 0, 0, 0, 0, 0]
theorem z1b_len : (z1bl k j).length = 161 := by
  unfold z1bl
  simp only [List.length_cons, List.length_nil, Nat.reduceAdd]
def z1cl (k j : Nat) : List Int := [0, 3, 2, 1, 2, 2, 0, 0, 0, 0, 4, 3, 9, 0, 0, 0, 0, 1, 0, 0, 0, 0, 0, 0, 0, 0, 1, 2, 0, 0, 0, 0, 0, 0, 0, 0, (k : Int) + 1, 3, 0, 0, 0, 0, 0, 0, 0, 0, 5, 9, 0, 0, 0, 0, 0, 0, 0, 0, 0, 0, 0, 0, 0, 0, 0, 0, 0, 5, 0, 0, 40, 0, 0, 0, 1, 0, 0, 0, 0, 0, 0, 0, 0, 0, 0, 0, 0, 0, 0, 0, 0, 0, 0, 2, 2, 0, 0, 0, 0, 0, 0, 0, 0, (j : Int) + 1, 24, 0, 0, 0, 0, 0, 0, 0, 0, 4, 2, 0, 0, 0, 0, 0, 0, 0, 0, 0, 0, 0, 0, 0, 0, 0, 0, 0, 0, 0, 0, 0, 0, 0, 0, 0, 0, 0, 0, 0, 0, 0, 0, 0, 0, 0, 0, 0, 0, 0, 0, 0, 0, 0, 0, 0, 0, 0, 0]
theorem z1c_len : (z1cl k j).length = 161 := by
  unfold z1cl
  simp only [List.length_cons, List.length_nil, Nat.reduceAdd]
theorem z_e2a : c_og 2 (zt (z1l k j)) 0 5 40 0 = zt (z1al k j) := by
  have e := zs_ferry (k := 0) (d := 5) (w := 40) 0 (z1_len (k := k) (j := j)) (zt_at 3 rfl (by decide) rfl) (by decide)
  exact e
theorem z_e2b : c_og 3 (zt (z1al k j)) 0 2 ((j : Int) + 1) 4 = zt (z1bl k j) := by
  have e := zs_moon (k := 0) (d := 2) (w := (j : Int) + 1) (p := 4) 0 0 (z1a_len (k := k) (j := j)) (zt_at 4 rfl (by decide) rfl) (zt_at 5 rfl (by decide) rfl) (by decide)
  exact e
theorem z_e2c : c_og 3 (zt (z1bl k j)) 0 2 24 2 = zt (z1cl k j) := by
  have e := zs_moon (k := 0) (d := 2) (w := 24) (p := 2) 1 1 (z1b_len (k := k) (j := j)) (zt_at 4 rfl (by decide) rfl) (zt_at 5 rfl (by decide) rfl) (by decide)
  exact e
theorem z_e2d : c_og 3 (zt (z1cl k j)) 0 1 30 1 = zt (z2l k j) := by
  have e := zs_moon (k := 0) (d := 1) (w := 30) (p := 1) 2 2 (z1c_len (k := k) (j := j)) (zt_at 4 rfl (by decide) rfl) (zt_at 5 rfl (by decide) rfl) (by decide)
  exact e
theorem z_e2 : c_cg (zt (z1l k j)) (z_c2 j) = zt (z2l k j) := by
  show c_og 3 (c_og 3 (c_og 3 (c_og 2 (zt (z1l k j)) 0 5 40 0) 0 2 ((j : Int) + 1) 4) 0 2 24 2) 0 1 30 1 = _
  rw [z_e2a, z_e2b, z_e2c, z_e2d]
theorem z_e4 (hk : k < 4) (hj : j < 16) : sp_gLoad (zt (z3l k j)) 0 = zt (z4l k j) := by
  have b := z_ok z_b4 hk hj
  unfold z_b4F at b
  have b1 := (Bool.and_eq_true _ _).mp b
  have b2 := (Bool.and_eq_true _ _).mp b1.2
  have e4 : zt (z3l k j) 4 = 3 := zt_at (l := z3l k j) (v := 3) 4 rfl (by decide) rfl
  have B : ∀ p, (sp_best (zt (z3l k j)) 0).2 p ↔ (p = 0 ∨ p = 1) := fun p => by
    constructor
    · intro h
      have r := sp_best_in h
      rw [e4] at r
      have q : ¬ p = 2 := fun z => by
        rw [z, c_best_eq] at h
        have h : (c_best (zt (z3l k j)) 0).2 2 = true := h
        rw [h] at b2
        exact absurd b2.2 (by decide)
      omega
    · rintro (h | h)
      · rw [h, c_best_eq]
        exact b1.1
      · rw [h, c_best_eq]
        exact b2.1
  have e : sp_gLoad (zt (z3l k j)) 0 = sp_set (sp_set (zt (z3l k j)) 121 10) 122 10 := by
    funext s
    by_cases h : sp_isB (zt (z3l k j)) 0 s
    · rw [sp_gLoadT h]
      have := (B (s - 121)).mp h.2
      have l := h.1
      by_cases a : s = 122
      · rw [a]
        exact sp_set_eq.symm
      · rw [sp_set_ne a, show s = 121 by omega]
        exact sp_set_eq.symm
    · rw [sp_gLoadF h]
      have n1 : ¬ s = 122 := fun z => h ⟨by omega, (B _).mpr (by omega)⟩
      have n2 : ¬ s = 121 := fun z => h ⟨by omega, (B _).mpr (by omega)⟩
      rw [sp_set_ne n1, sp_set_ne n2]
  rw [e, zs (x := 121) 121 rfl (by decide) z3_len, zs (x := 122) 122 rfl (by decide) (zs_len z3_len)]
  rfl
theorem z_e8 : sp_gLand (zt (z6l k j)) 1 = zt (z8l k j) := by
  have e122 : zt (z6l k j) (121 + 1) = 10 := zt_at 122 rfl (by decide) rfl
  have e56 : zt (z6l k j) (56 + 0) = 1 := zt_at 56 rfl (by decide) rfl
  have e92 : zt (z6l k j) (91 + 1) = 2 := zt_at 92 rfl (by decide) rfl
  have f : sp_fy (zt (z6l k j)) 1 = 0 := by
    unfold sp_fy
    rw [e122]
    rfl
  unfold sp_gLand sp_gAsh
  rw [f, e56, e92, if_neg (by decide), zs (x := 121 + 1) 122 rfl (by decide) z6_len]
  rfl
set_option maxRecDepth 100000 in
theorem z_e11 (hf : sp_fare (zt (z10l k j)) 0 = 5 * (k : Int) + 20) : sp_gLand (zt (z10l k j)) 0 = zt (z11l k j) := by
  have e121 : zt (z10l k j) (121 + 0) = 10 := zt_at 121 rfl (by decide) rfl
  have e56 : zt (z10l k j) (56 + 0) = 2 := zt_at 56 rfl (by decide) rfl
  have e91 : zt (z10l k j) (91 + 0) = 2 := zt_at 91 rfl (by decide) rfl
  have e6 : zt (z10l k j) 6 = 0 := zt_at 6 rfl (by decide) rfl
  have e4 : zt (z10l k j) 4 = 3 := zt_at 4 rfl (by decide) rfl
  have f : sp_fy (zt (z10l k j)) 0 = 0 := by
    unfold sp_fy
    rw [e121]
    rfl
  unfold sp_gLand sp_gGone sp_gPaid sp_gAsh
  rw [f, e56, e91, if_pos rfl, hf, e6, e4, Int.zero_add, zs (x := 121 + 0) 121 rfl (by decide) z10_len, zs (x := 6) 6 rfl (by decide) (zs_len z10_len), z_drp_eq, zs (x := 4) 4 rfl (by decide) (by unfold z_drp; rw [List.length_map, List.length_range])]
  unfold z_drp
  rw [z_ix]
  rfl
theorem z_e14 (hk : k < 4) : sp_pass (zt (z13l k j)) (19 - k) = (zt (z14l k j), 0) := by
  have e0 : zt (z13l k j) 0 = (k : Int) + 5 := zt_at (l := z13l k j) (v := (k : Int) + 5) 0 rfl (by decide) rfl
  have e3 : zt (z13l k j) 3 = 2 := zt_at (l := z13l k j) (v := 2) 3 rfl (by decide) rfl
  have e62 : zt (z13l k j) (62 + 0) = 0 := zt_at 62 rfl (by decide) rfl
  have e63 : zt (z13l k j) (62 + 1) = 0 := zt_at 63 rfl (by decide) rfl
  have q := zq (g := zt (z13l k j)) (m := 18 - k) (by omega) (fun f f0 f1 => by
    rcases (show f = 0 ∨ f = 1 by omega) with z | z <;> rw [z]
    · exact Or.inl (Int.le_of_eq e62)
    · exact Or.inl (Int.le_of_eq e63)) (fun i a b => by omega)
  rw [e0, show (k : Int) + 5 + ((18 - k : Nat) : Int) = 23 by omega, zs (x := 0) 0 rfl (by decide) z13_len] at q
  rw [show 19 - k = (18 - k) + 1 by omega]
  unfold sp_pass
  rw [q]
  have f0 : zt ((z13l k j).set 0 23) 0 = 23 := zt_at 0 rfl (by decide) rfl
  have f3 : zt ((z13l k j).set 0 23) 3 = 2 := zt_at 3 rfl (by decide) rfl
  have f4 : zt ((z13l k j).set 0 23) 4 = 2 := zt_at 4 rfl (by decide) rfl
  have f62 : zt ((z13l k j).set 0 23) (62 + 0) = 0 := zt_at 62 rfl (by decide) rfl
  have f63 : zt ((z13l k j).set 0 23) (62 + 1) = 0 := zt_at 63 rfl (by decide) rfl
  have f111 : zt ((z13l k j).set 0 23) 111 = 2 := zt_at 111 rfl (by decide) rfl
  have f112 : zt ((z13l k j).set 0 23) 112 = 1 := zt_at 112 rfl (by decide) rfl
  rw [zh_day (by omega) f4 (fun f f0 f1 => by
    rcases (show f = 0 ∨ f = 1 by omega) with z | z <;> rw [z]
    · exact Int.le_of_eq f62
    · exact Int.le_of_eq f63) (by rw [f0]; decide), f0, f111, f112, zs (x := 0) 0 rfl (by decide) (zs_len z13_len), zs (x := 111) 111 rfl (by decide) (zs_len (zs_len z13_len)), zs (x := 112) 112 rfl (by decide) (zs_len (zs_len (zs_len z13_len)))]
  rfl
end
