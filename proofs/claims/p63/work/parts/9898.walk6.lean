/-! the law walked: the third office -/
section
variable {sc : Nat × (Nat → Int32)} {M : mw_Mem} {Qr : Option Value → mw_Mem → Prop} {Qx : Nat → mw_Mem → Prop} {w : of_S}
theorem w_6 {b1 b2 : Nat} {v x3 : Int32} {B : Int} (hs : sc.1 ≤ 1000) (O1 : Off b1 302 M w B) (hkn : ∀ x, 1000000 ≤ x → M.2.2.2.2.1 x = none)
    (K : ∀ (k j : Nat) (b : Nat) (M' : mw_Mem), k < 4 → j < 16 → Off b 302 M' of_0 0 → Off b1 302 M' w B → b1 + 303 ≤ b → (∀ x, 1000000 ≤ x → M'.2.2.2.2.1 x = none) → mw_Wp sc mw_Good d_L_law 400 (352, [some (.ref 1000000), some (.ref b1), some (.ref b2), some (.int x3), some (.int v), some (.int (s_at sc 13)), some (.int (Int32.ofInt ((j : Int) + 1))), some (.int (Int32.ofInt ((k : Int) + 1))), some (.ref b)], [], M', 17921, 116608) Qr Qx) : mw_Wp sc mw_Good d_L_law 400 (316, [some (.ref 1000000), some (.ref b1), some (.ref b2), some (.int x3), some (.int v), none, none, none, none], [], M, 18224, 119344) Qr Qx := by
  obtain ⟨k, j, hk, hj, ej, ek⟩ := i_nw (s_at sc 13)
  refine lr _ (317, [some (.ref 1000000), some (.ref b1), some (.ref b2), some (.int x3), some (.int v), none, none, none, none], [.ref 1000000], M, 18224, 119344) l_L_law_316 rfl ?_
  refine lr _ (319, [some (.ref 1000000), some (.ref b1), some (.ref b2), some (.int x3), some (.int v), none, none, none, none], [.int 13, .ref 1000000], M, 18224, 119344) l_L_law_317 rfl ?_
  refine mw_Wp.cal _ d_L_at 0 0 0 l_L_law_319 rfl rfl g_L_at (by decide) (Nat.zero_le _) (Nat.zero_le _) True.intro ?_
  refine t_at (k := 13) (by decide) hs ?_
  show mw_Wp sc mw_Good d_L_law 400 (322, [some (.ref 1000000), some (.ref b1), some (.ref b2), some (.int x3), some (.int v), none, none, none, none], [.int (s_at sc 13)], M, 18224, 119344) Qr Qx
  refine lr _ (324, [some (.ref 1000000), some (.ref b1), some (.ref b2), some (.int x3), some (.int v), some (.int (s_at sc 13)), none, none, none], [], M, 18224, 119344) l_L_law_322 rfl ?_
  refine lr _ (325, [some (.ref 1000000), some (.ref b1), some (.ref b2), some (.int x3), some (.int v), some (.int (s_at sc 13)), none, none, none], [.int 1], M, 18224, 119344) l_L_law_324 rfl ?_
  refine lr _ (327, [some (.ref 1000000), some (.ref b1), some (.ref b2), some (.int x3), some (.int v), some (.int (s_at sc 13)), none, none, none], [.int (s_at sc 13), .int 1], M, 18224, 119344) l_L_law_325 rfl ?_
  refine lr _ (329, [some (.ref 1000000), some (.ref b1), some (.ref b2), some (.int x3), some (.int v), some (.int (s_at sc 13)), none, none, none], [.int 15, .int (s_at sc 13), .int 1], M, 18224, 119344) l_L_law_327 rfl ?_
  refine lr _ (330, [some (.ref 1000000), some (.ref b1), some (.ref b2), some (.int x3), some (.int v), some (.int (s_at sc 13)), none, none, none], [.int ((s_at sc 13) &&& 15), .int 1], M, 18224, 119344) l_L_law_329 rfl ?_
  refine lr _ (331, [some (.ref 1000000), some (.ref b1), some (.ref b2), some (.int x3), some (.int v), some (.int (s_at sc 13)), none, none, none], [.int (1 + ((s_at sc 13) &&& 15))], M, 18224, 119344) l_L_law_330 rfl ?_
  refine lr _ (333, [some (.ref 1000000), some (.ref b1), some (.ref b2), some (.int x3), some (.int v), some (.int (s_at sc 13)), some (.int (1 + ((s_at sc 13) &&& 15))), none, none], [], M, 18224, 119344) l_L_law_331 rfl ?_
  refine lr _ (334, [some (.ref 1000000), some (.ref b1), some (.ref b2), some (.int x3), some (.int v), some (.int (s_at sc 13)), some (.int (1 + ((s_at sc 13) &&& 15))), none, none], [.int 1], M, 18224, 119344) l_L_law_333 rfl ?_
  refine lr _ (336, [some (.ref 1000000), some (.ref b1), some (.ref b2), some (.int x3), some (.int v), some (.int (s_at sc 13)), some (.int (1 + ((s_at sc 13) &&& 15))), none, none], [.int (s_at sc 13), .int 1], M, 18224, 119344) l_L_law_334 rfl ?_
  refine lr _ (337, [some (.ref 1000000), some (.ref b1), some (.ref b2), some (.int x3), some (.int v), some (.int (s_at sc 13)), some (.int (1 + ((s_at sc 13) &&& 15))), none, none], [.int 4, .int (s_at sc 13), .int 1], M, 18224, 119344) l_L_law_336 rfl ?_
  refine lr _ (338, [some (.ref 1000000), some (.ref b1), some (.ref b2), some (.int x3), some (.int v), some (.int (s_at sc 13)), some (.int (1 + ((s_at sc 13) &&& 15))), none, none], [.int ((s_at sc 13) >>> ((4 : Int32) &&& 31)), .int 1], M, 18224, 119344) l_L_law_337 rfl ?_
  refine lr _ (339, [some (.ref 1000000), some (.ref b1), some (.ref b2), some (.int x3), some (.int v), some (.int (s_at sc 13)), some (.int (1 + ((s_at sc 13) &&& 15))), none, none], [.int 3, .int ((s_at sc 13) >>> ((4 : Int32) &&& 31)), .int 1], M, 18224, 119344) l_L_law_338 rfl ?_
  refine lr _ (340, [some (.ref 1000000), some (.ref b1), some (.ref b2), some (.int x3), some (.int v), some (.int (s_at sc 13)), some (.int (1 + ((s_at sc 13) &&& 15))), none, none], [.int (((s_at sc 13) >>> ((4 : Int32) &&& 31)) &&& 3), .int 1], M, 18224, 119344) l_L_law_339 rfl ?_
  refine lr _ (341, [some (.ref 1000000), some (.ref b1), some (.ref b2), some (.int x3), some (.int v), some (.int (s_at sc 13)), some (.int (1 + ((s_at sc 13) &&& 15))), none, none], [.int (1 + (((s_at sc 13) >>> ((4 : Int32) &&& 31)) &&& 3))], M, 18224, 119344) l_L_law_340 rfl ?_
  refine lr _ (343, [some (.ref 1000000), some (.ref b1), some (.ref b2), some (.int x3), some (.int v), some (.int (s_at sc 13)), some (.int (1 + ((s_at sc 13) &&& 15))), some (.int (1 + (((s_at sc 13) >>> ((4 : Int32) &&& 31)) &&& 3))), none], [], M, 18224, 119344) l_L_law_341 rfl ?_
  rw [ej, ek]
  refine mw_Wp.fact (fun hM => ?_)
  have hM : M.2.2.2.2.2 ≤ 990000 := hM
  refine lr _ (346, [some (.ref 1000000), some (.ref b1), some (.ref b2), some (.int x3), some (.int v), some (.int (s_at sc 13)), some (.int (Int32.ofInt ((j : Int) + 1))), some (.int (Int32.ofInt ((k : Int) + 1))), none], [.ref M.2.2.2.2.2], (mw_ncell M (15, 13)), 18223, 119331) l_L_law_343 rfl ?_
  refine lr _ (347, [some (.ref 1000000), some (.ref b1), some (.ref b2), some (.int x3), some (.int v), some (.int (s_at sc 13)), some (.int (Int32.ofInt ((j : Int) + 1))), some (.int (Int32.ofInt ((k : Int) + 1))), none], [.ref M.2.2.2.2.2, .ref M.2.2.2.2.2], (mw_ncell M (15, 13)), 18223, 119331) l_L_law_346 rfl ?_
  refine lc_init hM l_L_law_347 rfl rfl rfl (by decide) (by decide) (by decide) rfl rfl (fun R9 h9 => ⟨_, rfl, fun z9 => absurd z9 (by decide)⟩) (fun M1 O3 n1 q1 k1 => ?_)
  show mw_Wp sc mw_Good d_L_law 400 (350, [some (.ref 1000000), some (.ref b1), some (.ref b2), some (.int x3), some (.int v), some (.int (s_at sc 13)), some (.int (Int32.ofInt ((j : Int) + 1))), some (.int (Int32.ofInt ((k : Int) + 1))), none], [.ref M.2.2.2.2.2], M1, 17921, 116608) Qr Qx
  refine lr _ (352, [some (.ref 1000000), some (.ref b1), some (.ref b2), some (.int x3), some (.int v), some (.int (s_at sc 13)), some (.int (Int32.ofInt ((j : Int) + 1))), some (.int (Int32.ofInt ((k : Int) + 1))), some (.ref M.2.2.2.2.2)], [], M1, 17921, 116608) l_L_law_350 rfl ?_
  exact K k j _ M1 hk hj O3 (O1.fr n1 (fun x hx => q1 x (by have := O1.kd; omega))) (by have := O1.kd; omega) (fun x a => k1 x a (hkn x a))
end
