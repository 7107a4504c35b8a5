/-! the law walked: changes undone -/
def w_x4 (w : of_S) (t : Int → Int) : of_S := ((w.1.1, un w.1.2.1 - 1, sp_psh w.1.2.1 w.1.2.2.1 w.1.1, 1, w.1.1), w.2.1, (0, t), w.2.2.2)
def w_hy (w : of_S) (g1 g2 : Int → Int) : Nat → Int → Int := sp_psh (un (un w.1.2.1)) (sp_psh (un w.1.2.1) (sp_psh w.1.2.1 w.1.2.2.1 w.1.1) g1) g2
def w_y4 (w : of_S) (g1 g2 : Int → Int) (g : Int → Int) (n : Int) : of_S := ((g, n, w_hy w g1 g2, w.1.2.2.2), w.2)
theorem un_lo {n : Int} (h : 0 ≤ n ∧ n ≤ 8) : (n = 8 ∧ un n = 8) ∨ (n < 8 ∧ un n = n + 1) := by
  unfold un
  split <;> omega
theorem un_3 {n : Int} (h : 0 ≤ n ∧ n ≤ 8) : 3 ≤ un (un (un n)) ∧ un (un (un n)) ≤ 8 := by
  have a := un_rng h
  have b := un_rng ⟨a.1, a.2.1⟩
  have x := un_lo h
  have y := un_lo ⟨a.1, a.2.1⟩
  have z := un_lo ⟨b.1, b.2.1⟩
  omega
section
variable {sc : Nat × (Nat → Int32)} {M : mw_Mem} {Qr : Option Value → mw_Mem → Prop} {Qx : Nat → mw_Mem → Prop} {w : of_S} {g1 g2 g3 t : Int → Int}
theorem w_ux (hn : 0 ≤ w.1.2.1 ∧ w.1.2.1 ≤ 8) : of_call d_X11_undo [] (w_x3 w g3 t) (.inr (some (.inl (un w.1.2.1 - 1)))) (w_x4 w t) 0 := by
  have h := o_undo (w := w_x3 w g3 t) (un_rng hn).2.2
  have e : sp_psh w.1.2.1 w.1.2.2.1 w.1.1 (un w.1.2.1 - 1).toNat = w.1.1 := u_1 hn
  have h' : of_call d_X11_undo [] (w_x3 w g3 t) (.inr (some (.inl (un w.1.2.1 - 1)))) ((sp_psh w.1.2.1 w.1.2.2.1 w.1.1 (un w.1.2.1 - 1).toNat, un w.1.2.1 - 1, sp_psh w.1.2.1 w.1.2.2.1 w.1.1, 1, w.1.1), w.2.1, (0, t), w.2.2.2) 0 := h
  rw [e] at h'
  exact h'
theorem w_uy1 (hn : 0 ≤ w.1.2.1 ∧ w.1.2.1 ≤ 8) : of_call d_X11_undo [] (of_ok (of_ok (of_ok w g1) g2) g3) (.inr (some (.inl (un (un (un w.1.2.1)) - 1)))) (w_y4 w g1 g2 g2 (un (un (un w.1.2.1)) - 1)) 0 := by
  have r1 := un_rng hn
  have r2 := un_rng ⟨r1.1, r1.2.1⟩
  have h := o_undo (w := of_ok (of_ok (of_ok w g1) g2) g3) (un_rng ⟨r2.1, r2.2.1⟩).2.2
  have e : w_hy w g1 g2 (un (un (un w.1.2.1)) - 1).toNat = g2 := u_1 ⟨r2.1, r2.2.1⟩
  have h' : of_call d_X11_undo [] (of_ok (of_ok (of_ok w g1) g2) g3) (.inr (some (.inl (un (un (un w.1.2.1)) - 1)))) (w_y4 w g1 g2 (w_hy w g1 g2 (un (un (un w.1.2.1)) - 1).toNat) (un (un (un w.1.2.1)) - 1)) 0 := h
  rw [e] at h'
  exact h'
theorem w_uy2 (hn : 0 ≤ w.1.2.1 ∧ w.1.2.1 ≤ 8) : of_call d_X11_undo [] (w_y4 w g1 g2 g2 (un (un (un w.1.2.1)) - 1)) (.inr (some (.inl (un (un (un w.1.2.1)) - 1 - 1)))) (w_y4 w g1 g2 g1 (un (un (un w.1.2.1)) - 1 - 1)) 0 := by
  have r1 := un_rng hn
  have nz : ¬ un (un (un w.1.2.1)) - 1 = 0 := by
    have := un_3 hn
    omega
  have h := o_undo (w := w_y4 w g1 g2 g2 (un (un (un w.1.2.1)) - 1)) nz
  have e : w_hy w g1 g2 (un (un (un w.1.2.1)) - 1 - 1).toNat = g1 := u_2 ⟨r1.1, r1.2.1⟩
  have h' : of_call d_X11_undo [] (w_y4 w g1 g2 g2 (un (un (un w.1.2.1)) - 1)) (.inr (some (.inl (un (un (un w.1.2.1)) - 1 - 1)))) (w_y4 w g1 g2 (w_hy w g1 g2 (un (un (un w.1.2.1)) - 1 - 1).toNat) (un (un (un w.1.2.1)) - 1 - 1)) 0 := h
  rw [e] at h'
  exact h'
theorem w_uy3 (hn : 0 ≤ w.1.2.1 ∧ w.1.2.1 ≤ 8) : of_call d_X11_undo [] (w_y4 w g1 g2 g1 (un (un (un w.1.2.1)) - 1 - 1)) (.inr (some (.inl (un (un (un w.1.2.1)) - 1 - 1 - 1)))) (w_y4 w g1 g2 w.1.1 (un (un (un w.1.2.1)) - 1 - 1 - 1)) 0 := by
  have nz : ¬ un (un (un w.1.2.1)) - 1 - 1 = 0 := by
    have := un_3 hn
    omega
  have h := o_undo (w := w_y4 w g1 g2 g1 (un (un (un w.1.2.1)) - 1 - 1)) nz
  have e : w_hy w g1 g2 (un (un (un w.1.2.1)) - 1 - 1 - 1).toNat = w.1.1 := u_3 hn
  have h' : of_call d_X11_undo [] (w_y4 w g1 g2 g1 (un (un (un w.1.2.1)) - 1 - 1)) (.inr (some (.inl (un (un (un w.1.2.1)) - 1 - 1 - 1)))) (w_y4 w g1 g2 (w_hy w g1 g2 (un (un (un w.1.2.1)) - 1 - 1 - 1).toNat) (un (un (un w.1.2.1)) - 1 - 1 - 1)) 0 := h
  rw [e] at h'
  exact h'
theorem w_un {n : Int} (hn : 0 ≤ n ∧ n ≤ 8) : (0 ≤ un n - 1 ∧ un n - 1 ≤ 1000) ∧ (0 ≤ un (un (un n)) - 1 - 1 - 1 ∧ un (un (un n)) - 1 ≤ 1000) := by
  have a := un_rng hn
  have b := un_3 hn
  omega
theorem w_3 {b1 b2 : Nat} {v x3 : Int32} (hn : 0 ≤ w.1.2.1 ∧ w.1.2.1 ≤ 8) (O1 : Off b1 302 M (w_x3 w g3 t) 50000) (O2 : Off b2 302 M (of_ok (of_ok (of_ok w g1) g2) g3) 50000) (hd : b1 + 303 ≤ b2) (hkn : ∀ x, 1000000 ≤ x → M.2.2.2.2.1 x = none) (hv : SV sc w.1.1 v)
    (K : ∀ (M' : mw_Mem), Off b1 302 M' (w_x4 w t) 50000 → (∀ x, 1000000 ≤ x → M'.2.2.2.2.1 x = none) → mw_Wp sc mw_Good d_L_law 400 (121, [some (.ref 1000000), some (.ref b1), some (.ref b2), some (.int x3), some (.int v), none, none, none, none], [], M', 24724, 158344) Qr Qx) : mw_Wp sc mw_Good d_L_law 400 (73, [some (.ref 1000000), some (.ref b1), some (.ref b2), some (.int x3), some (.int v), none, none, none, none], [], M, 26740, 170440) Qr Qx := by
  refine lr _ (74, [some (.ref 1000000), some (.ref b1), some (.ref b2), some (.int x3), some (.int v), none, none, none, none], [.ref b1], M, 26740, 170440) l_L_law_73 rfl ?_
  refine lc_call [] (w_ux hn) O1 (by omega) l_L_law_74 rfl rfl g_X11_undo (by decide) (by decide) (by decide) rfl rfl (fun R9 h9 => Or.inl ⟨_, _, rfl, h9⟩) True.intro (fun M1_ A1_ F1_ => ?_)
  show mw_Wp sc mw_Good d_L_law 400 (77, [some (.ref 1000000), some (.ref b1), some (.ref b2), some (.int x3), some (.int v), none, none, none, none], [.int (Int32.ofInt (un w.1.2.1 - 1))], M1_, 26736, 170416) Qr Qx
  have A1_k0 := O2.oth F1_ (Or.inr ⟨hd, rfl⟩)
  have hn1 : ∀ x, 1000000 ≤ x → M1_.2.2.2.2.1 x = none := fun x a => F1_.2.2 x a (hkn x a)
  refine lbF _ ((Int32.ofInt (un w.1.2.1 - 1)) < 0) (119, [some (.ref 1000000), some (.ref b1), some (.ref b2), some (.int x3), some (.int v), none, none, none, none], [], M1_, 26736, 170416) (80, [some (.ref 1000000), some (.ref b1), some (.ref b2), some (.int x3), some (.int v), none, none, none, none], [], M1_, 26736, 170416) l_L_law_77 rfl (w_nn (w_un hn).1) ?_
  refine lr _ (81, [some (.ref 1000000), some (.ref b1), some (.ref b2), some (.int x3), some (.int v), none, none, none, none], [.ref b1], M1_, 26736, 170416) l_L_law_80 rfl ?_
  refine mw_Wp.cal _ d_L_state 300 1000 6000 l_L_law_81 rfl rfl g_L_state (by decide) (by decide) (by decide) True.intro ?_
  refine hv (w_x4 w t) b1 302 _ _ _ _ rfl A1_ (by omega) hn1 (fun M2_ A2_ F2_ => ?_)
  show mw_Wp sc mw_Good d_L_law 400 (84, [some (.ref 1000000), some (.ref b1), some (.ref b2), some (.int x3), some (.int v), none, none, none, none], [.int v], M2_, 25736, 164416) Qr Qx
  have A2_k0 := A1_k0.oth F2_ (Or.inr ⟨hd, rfl⟩)
  have hn2 : ∀ x, 1000000 ≤ x → M2_.2.2.2.2.1 x = none := fun x a => F2_.2.2 x a (hn1 x a)
  refine lr _ (86, [some (.ref 1000000), some (.ref b1), some (.ref b2), some (.int x3), some (.int v), none, none, none, none], [.int v, .int v], M2_, 25736, 164416) l_L_law_84 rfl ?_
  refine lbF _ (¬ v = v) (119, [some (.ref 1000000), some (.ref b1), some (.ref b2), some (.int x3), some (.int v), none, none, none, none], [], M2_, 25736, 164416) (89, [some (.ref 1000000), some (.ref b1), some (.ref b2), some (.int x3), some (.int v), none, none, none, none], [], M2_, 25736, 164416) l_L_law_86 rfl (fun z => z rfl) ?_
  refine lr _ (90, [some (.ref 1000000), some (.ref b1), some (.ref b2), some (.int x3), some (.int v), none, none, none, none], [.ref b2], M2_, 25736, 164416) l_L_law_89 rfl ?_
  refine lc_call [] (w_uy1 hn) A2_k0 (by omega) l_L_law_90 rfl rfl g_X11_undo (by decide) (by decide) (by decide) rfl rfl (fun R9 h9 => Or.inl ⟨_, _, rfl, h9⟩) True.intro (fun M3_ A3_ F3_ => ?_)
  show mw_Wp sc mw_Good d_L_law 400 (93, [some (.ref 1000000), some (.ref b1), some (.ref b2), some (.int x3), some (.int v), none, none, none, none], [.int (Int32.ofInt (un (un (un w.1.2.1)) - 1))], M3_, 25732, 164392) Qr Qx
  have A3_k0 := A2_.oth F3_ (Or.inl hd)
  have hn3 : ∀ x, 1000000 ≤ x → M3_.2.2.2.2.1 x = none := fun x a => F3_.2.2 x a (hn2 x a)
  refine lbF _ ((Int32.ofInt (un (un (un w.1.2.1)) - 1)) < 0) (119, [some (.ref 1000000), some (.ref b1), some (.ref b2), some (.int x3), some (.int v), none, none, none, none], [], M3_, 25732, 164392) (96, [some (.ref 1000000), some (.ref b1), some (.ref b2), some (.int x3), some (.int v), none, none, none, none], [], M3_, 25732, 164392) l_L_law_93 rfl (w_nn (v := un (un (un w.1.2.1)) - 1) (by have := (w_un hn).2; omega)) ?_
  refine lr _ (97, [some (.ref 1000000), some (.ref b1), some (.ref b2), some (.int x3), some (.int v), none, none, none, none], [.ref b2], M3_, 25732, 164392) l_L_law_96 rfl ?_
  refine lc_call [] (w_uy2 hn) A3_ (by omega) l_L_law_97 rfl rfl g_X11_undo (by decide) (by decide) (by decide) rfl rfl (fun R9 h9 => Or.inl ⟨_, _, rfl, h9⟩) True.intro (fun M4_ A4_ F4_ => ?_)
  show mw_Wp sc mw_Good d_L_law 400 (100, [some (.ref 1000000), some (.ref b1), some (.ref b2), some (.int x3), some (.int v), none, none, none, none], [.int (Int32.ofInt (un (un (un w.1.2.1)) - 1 - 1))], M4_, 25728, 164368) Qr Qx
  have A4_k0 := A3_k0.oth F4_ (Or.inl hd)
  have hn4 : ∀ x, 1000000 ≤ x → M4_.2.2.2.2.1 x = none := fun x a => F4_.2.2 x a (hn3 x a)
  refine lbF _ ((Int32.ofInt (un (un (un w.1.2.1)) - 1 - 1)) < 0) (119, [some (.ref 1000000), some (.ref b1), some (.ref b2), some (.int x3), some (.int v), none, none, none, none], [], M4_, 25728, 164368) (103, [some (.ref 1000000), some (.ref b1), some (.ref b2), some (.int x3), some (.int v), none, none, none, none], [], M4_, 25728, 164368) l_L_law_100 rfl (w_nn (v := un (un (un w.1.2.1)) - 1 - 1) (by have := (w_un hn).2; omega)) ?_
  refine lr _ (104, [some (.ref 1000000), some (.ref b1), some (.ref b2), some (.int x3), some (.int v), none, none, none, none], [.ref b2], M4_, 25728, 164368) l_L_law_103 rfl ?_
  refine lc_call [] (w_uy3 hn) A4_ (by omega) l_L_law_104 rfl rfl g_X11_undo (by decide) (by decide) (by decide) rfl rfl (fun R9 h9 => Or.inl ⟨_, _, rfl, h9⟩) True.intro (fun M5_ A5_ F5_ => ?_)
  show mw_Wp sc mw_Good d_L_law 400 (107, [some (.ref 1000000), some (.ref b1), some (.ref b2), some (.int x3), some (.int v), none, none, none, none], [.int (Int32.ofInt (un (un (un w.1.2.1)) - 1 - 1 - 1))], M5_, 25724, 164344) Qr Qx
  have A5_k0 := A4_k0.oth F5_ (Or.inl hd)
  have hn5 : ∀ x, 1000000 ≤ x → M5_.2.2.2.2.1 x = none := fun x a => F5_.2.2 x a (hn4 x a)
  refine lbF _ ((Int32.ofInt (un (un (un w.1.2.1)) - 1 - 1 - 1)) < 0) (119, [some (.ref 1000000), some (.ref b1), some (.ref b2), some (.int x3), some (.int v), none, none, none, none], [], M5_, 25724, 164344) (110, [some (.ref 1000000), some (.ref b1), some (.ref b2), some (.int x3), some (.int v), none, none, none, none], [], M5_, 25724, 164344) l_L_law_107 rfl (w_nn (v := un (un (un w.1.2.1)) - 1 - 1 - 1) (by have := (w_un hn).2; omega)) ?_
  refine lr _ (111, [some (.ref 1000000), some (.ref b1), some (.ref b2), some (.int x3), some (.int v), none, none, none, none], [.ref b2], M5_, 25724, 164344) l_L_law_110 rfl ?_
  refine mw_Wp.cal _ d_L_state 300 1000 6000 l_L_law_111 rfl rfl g_L_state (by decide) (by decide) (by decide) True.intro ?_
  refine hv (w_y4 w g1 g2 w.1.1 _) b2 302 _ _ _ _ rfl A5_ (by omega) hn5 (fun M6_ A6_ F6_ => ?_)
  show mw_Wp sc mw_Good d_L_law 400 (114, [some (.ref 1000000), some (.ref b1), some (.ref b2), some (.int x3), some (.int v), none, none, none, none], [.int v], M6_, 24724, 158344) Qr Qx
  have A6_k0 := A5_k0.oth F6_ (Or.inl hd)
  have hn6 : ∀ x, 1000000 ≤ x → M6_.2.2.2.2.1 x = none := fun x a => F6_.2.2 x a (hn5 x a)
  refine lr _ (116, [some (.ref 1000000), some (.ref b1), some (.ref b2), some (.int x3), some (.int v), none, none, none, none], [.int v, .int v], M6_, 24724, 158344) l_L_law_114 rfl ?_
  refine lbT _ (v = v) (121, [some (.ref 1000000), some (.ref b1), some (.ref b2), some (.int x3), some (.int v), none, none, none, none], [], M6_, 24724, 158344) (119, [some (.ref 1000000), some (.ref b1), some (.ref b2), some (.int x3), some (.int v), none, none, none, none], [], M6_, 24724, 158344) l_L_law_116 rfl rfl ?_
  exact K _ (A6_k0.up (by omega) (by omega)) hn6
end
