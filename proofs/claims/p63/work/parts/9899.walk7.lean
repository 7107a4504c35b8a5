/-! the law walked: the empty office -/
theorem qo {v k' v' : Int} (e : (0 : Int) = k' ∧ ((0 : Int) = 0 → v = v')) : of_v (.inr v) = of_o k' v' := by
  rw [of_o, if_pos e.1.symm, ← e.2 rfl]
  rfl
theorem qx {k v k' v' : Int} {n : Nat} (hk : k = n + 1) (e : k = k' ∧ (k = 0 → v = v')) : of_v (.inl n) = of_o k' v' := by
  rw [of_o, if_neg (by omega), ← e.1, hk, show ((n : Int) + 1 - 1).toNat = n by omega]
  rfl
theorem y_con {w : of_S} : of_call d_X11_isConsistent [] w (of_v (.inr 1)) w 0 := q_isConsistent (fun k v h => qo (q_isConsistent_u (k := 0) (v := 1) ⟨rfl, rfl⟩ h))
theorem y_net : of_call d_X11_cheapestNet [] of_0 (of_v (.inr 0)) of_0 0 := q_cheapestNet (fun k v h => qo (q_cheapestNet_u (k := 0) (v := 0) (Or.inr ⟨rfl, by rw [(z_n0 (g := of_0.1.1) rfl).1]; decide, (z_n0 (g := of_0.1.1) rfl).2.symm⟩) h))
theorem y_t9 {w : of_S} : of_call d_X11_tide ([(9 : Int32)].map (fun v => (.inl v.toInt : nw_V))) w (of_v (.inr 3)) w 0 := q_tide (fun k v h => qo (q_tide_u (k := 0) (v := 3) (Or.inr ⟨rfl, by decide, by decide⟩) h))
theorem y_t6 {w : of_S} : of_call d_X11_tide ([(6 : Int32)].map (fun v => (.inl v.toInt : nw_V))) w (of_v (.inr 6)) w 0 := q_tide (fun k v h => qo (q_tide_u (k := 0) (v := 6) (Or.inr ⟨rfl, by decide, by decide⟩) h))
theorem y_a2 : of_call d_X11_sail [.inl (0 : Int32).toInt, .inl (0 : Int32).toInt] of_0 (of_v (.inl 0)) (of_fl of_0 0) 200 := of_sail.2.1 (-1) 0 (c_of_ok (by decide +kernel))
theorem y_a4 : of_call d_X11_land [.inl (0 : Int32).toInt] (of_fl of_0 0) (of_v (.inl 4)) (of_fl (of_fl of_0 0) 0) 200 := of_land.2.1 (-5) 0 (c_of_ok (by decide +kernel))
theorem y_a17 {w : of_S} (h1 : w.1.1 1 = 0) : of_call d_X11_channelBetween [.inl (0 : Int32).toInt, .inl (0 : Int32).toInt] w (of_v (.inl 0)) w 0 := q_channelBetween (fun k v h => qx (k := 1) (v := 0) rfl (q_channelBetween_u (k := 1) (v := 0) (Or.inl ⟨rfl, fun z => by
  have := z.1
  rw [h1] at this
  exact absurd this (by decide)⟩) h))
section
variable {sc : Nat × (Nat → Int32)} {M : mw_Mem} {Qr : Option Value → mw_Mem → Prop} {Qx : Nat → mw_Mem → Prop} {w : of_S}
theorem w_7 {b1 b2 b : Nat} {v x3 c5 c6 c7 : Int32} {B : Int} (O1 : Off b1 302 M w B) (O3 : Off b 302 M of_0 0) (hd : b1 + 303 ≤ b) (hkn : ∀ x, 1000000 ≤ x → M.2.2.2.2.1 x = none)
    (K : ∀ (M' : mw_Mem), Off b 302 M' (of_fl (of_fl of_0 0) 0) 1000 → Off b1 302 M' w B → (∀ x, 1000000 ≤ x → M'.2.2.2.2.1 x = none) → mw_Wp sc mw_Good d_L_law 400 (434, [some (.ref 1000000), some (.ref b1), some (.ref b2), some (.int x3), some (.int v), some (.int c5), some (.int c6), some (.int c7), some (.ref b)], [], M', 17893, 116440) Qr Qx) : mw_Wp sc mw_Good d_L_law 400 (352, [some (.ref 1000000), some (.ref b1), some (.ref b2), some (.int x3), some (.int v), some (.int c5), some (.int c6), some (.int c7), some (.ref b)], [], M, 17921, 116608) Qr Qx := by
  refine lr _ (354, [some (.ref 1000000), some (.ref b1), some (.ref b2), some (.int x3), some (.int v), some (.int c5), some (.int c6), some (.int c7), some (.ref b)], [.ref b], M, 17921, 116608) l_L_law_352 rfl ?_
  refine lc_call [] y_con O3 (by omega) l_L_law_354 rfl rfl g_X11_isConsistent (by decide) (by decide) (by decide) rfl rfl (fun R9 h9 => Or.inl ⟨_, _, rfl, h9⟩) (of_v_nr _) (fun M1_ A1_ F1_ => ?_)
  show mw_Wp sc mw_Good d_L_law 400 (357, [some (.ref 1000000), some (.ref b1), some (.ref b2), some (.int x3), some (.int v), some (.int c5), some (.int c6), some (.int c7), some (.ref b)], [.int (Int32.ofInt 1)], M1_, 17917, 116584) Qr Qx
  have A1_k0 := O1.oth F1_ (Or.inl hd)
  have hn1 : ∀ x, 1000000 ≤ x → M1_.2.2.2.2.1 x = none := fun x a => F1_.2.2 x a (hkn x a)
  refine lbF _ ((Int32.ofInt 1) = 0) (432, [some (.ref 1000000), some (.ref b1), some (.ref b2), some (.int x3), some (.int v), some (.int c5), some (.int c6), some (.int c7), some (.ref b)], [], M1_, 17917, 116584) (360, [some (.ref 1000000), some (.ref b1), some (.ref b2), some (.int x3), some (.int v), some (.int c5), some (.int c6), some (.int c7), some (.ref b)], [], M1_, 17917, 116584) l_L_law_357 rfl (by decide) ?_
  refine lr _ (362, [some (.ref 1000000), some (.ref b1), some (.ref b2), some (.int x3), some (.int v), some (.int c5), some (.int c6), some (.int c7), some (.ref b)], [.ref b], M1_, 17917, 116584) l_L_law_360 rfl ?_
  refine lc_call [] y_net A1_ (by omega) l_L_law_362 rfl rfl g_X11_cheapestNet (by decide) (by decide) (by decide) rfl rfl (fun R9 h9 => Or.inl ⟨_, _, rfl, h9⟩) (of_v_nr _) (fun M2_ A2_ F2_ => ?_)
  show mw_Wp sc mw_Good d_L_law 400 (365, [some (.ref 1000000), some (.ref b1), some (.ref b2), some (.int x3), some (.int v), some (.int c5), some (.int c6), some (.int c7), some (.ref b)], [.int (Int32.ofInt 0)], M2_, 17913, 116560) Qr Qx
  have A2_k0 := A1_k0.oth F2_ (Or.inl hd)
  have hn2 : ∀ x, 1000000 ≤ x → M2_.2.2.2.2.1 x = none := fun x a => F2_.2.2 x a (hn1 x a)
  refine lbF _ (¬ (Int32.ofInt 0) = 0) (432, [some (.ref 1000000), some (.ref b1), some (.ref b2), some (.int x3), some (.int v), some (.int c5), some (.int c6), some (.int c7), some (.ref b)], [], M2_, 17913, 116560) (368, [some (.ref 1000000), some (.ref b1), some (.ref b2), some (.int x3), some (.int v), some (.int c5), some (.int c6), some (.int c7), some (.ref b)], [], M2_, 17913, 116560) l_L_law_365 rfl (by decide) ?_
  refine lr _ (370, [some (.ref 1000000), some (.ref b1), some (.ref b2), some (.int x3), some (.int v), some (.int c5), some (.int c6), some (.int c7), some (.ref b)], [.ref b], M2_, 17913, 116560) l_L_law_368 rfl ?_
  refine lr _ (372, [some (.ref 1000000), some (.ref b1), some (.ref b2), some (.int x3), some (.int v), some (.int c5), some (.int c6), some (.int c7), some (.ref b)], [.int 9, .ref b], M2_, 17913, 116560) l_L_law_370 rfl ?_
  refine lc_call [9] y_t9 A2_ (by omega) l_L_law_372 rfl rfl g_X11_tide (by decide) (by decide) (by decide) rfl rfl (fun R9 h9 => Or.inl ⟨_, _, rfl, h9⟩) (of_v_nr _) (fun M3_ A3_ F3_ => ?_)
  show mw_Wp sc mw_Good d_L_law 400 (375, [some (.ref 1000000), some (.ref b1), some (.ref b2), some (.int x3), some (.int v), some (.int c5), some (.int c6), some (.int c7), some (.ref b)], [.int (Int32.ofInt 3)], M3_, 17909, 116536) Qr Qx
  have A3_k0 := A2_k0.oth F3_ (Or.inl hd)
  have hn3 : ∀ x, 1000000 ≤ x → M3_.2.2.2.2.1 x = none := fun x a => F3_.2.2 x a (hn2 x a)
  refine lr _ (376, [some (.ref 1000000), some (.ref b1), some (.ref b2), some (.int x3), some (.int v), some (.int c5), some (.int c6), some (.int c7), some (.ref b)], [.int 3, .int (Int32.ofInt 3)], M3_, 17909, 116536) l_L_law_375 rfl ?_
  refine lbF _ (¬ (Int32.ofInt 3) = 3) (432, [some (.ref 1000000), some (.ref b1), some (.ref b2), some (.int x3), some (.int v), some (.int c5), some (.int c6), some (.int c7), some (.ref b)], [], M3_, 17909, 116536) (379, [some (.ref 1000000), some (.ref b1), some (.ref b2), some (.int x3), some (.int v), some (.int c5), some (.int c6), some (.int c7), some (.ref b)], [], M3_, 17909, 116536) l_L_law_376 rfl (by decide) ?_
  refine lr _ (381, [some (.ref 1000000), some (.ref b1), some (.ref b2), some (.int x3), some (.int v), some (.int c5), some (.int c6), some (.int c7), some (.ref b)], [.ref b], M3_, 17909, 116536) l_L_law_379 rfl ?_
  refine lr _ (383, [some (.ref 1000000), some (.ref b1), some (.ref b2), some (.int x3), some (.int v), some (.int c5), some (.int c6), some (.int c7), some (.ref b)], [.int 6, .ref b], M3_, 17909, 116536) l_L_law_381 rfl ?_
  refine lc_call [6] y_t6 A3_ (by omega) l_L_law_383 rfl rfl g_X11_tide (by decide) (by decide) (by decide) rfl rfl (fun R9 h9 => Or.inl ⟨_, _, rfl, h9⟩) (of_v_nr _) (fun M4_ A4_ F4_ => ?_)
  show mw_Wp sc mw_Good d_L_law 400 (386, [some (.ref 1000000), some (.ref b1), some (.ref b2), some (.int x3), some (.int v), some (.int c5), some (.int c6), some (.int c7), some (.ref b)], [.int (Int32.ofInt 6)], M4_, 17905, 116512) Qr Qx
  have A4_k0 := A3_k0.oth F4_ (Or.inl hd)
  have hn4 : ∀ x, 1000000 ≤ x → M4_.2.2.2.2.1 x = none := fun x a => F4_.2.2 x a (hn3 x a)
  refine lr _ (388, [some (.ref 1000000), some (.ref b1), some (.ref b2), some (.int x3), some (.int v), some (.int c5), some (.int c6), some (.int c7), some (.ref b)], [.int 6, .int (Int32.ofInt 6)], M4_, 17905, 116512) l_L_law_386 rfl ?_
  refine lbF _ (¬ (Int32.ofInt 6) = 6) (432, [some (.ref 1000000), some (.ref b1), some (.ref b2), some (.int x3), some (.int v), some (.int c5), some (.int c6), some (.int c7), some (.ref b)], [], M4_, 17905, 116512) (391, [some (.ref 1000000), some (.ref b1), some (.ref b2), some (.int x3), some (.int v), some (.int c5), some (.int c6), some (.int c7), some (.ref b)], [], M4_, 17905, 116512) l_L_law_388 rfl (by decide) ?_
  refine lr _ (393, [some (.ref 1000000), some (.ref b1), some (.ref b2), some (.int x3), some (.int v), some (.int c5), some (.int c6), some (.int c7), some (.ref b)], [.ref b], M4_, 17905, 116512) l_L_law_391 rfl ?_
  refine lr _ (394, [some (.ref 1000000), some (.ref b1), some (.ref b2), some (.int x3), some (.int v), some (.int c5), some (.int c6), some (.int c7), some (.ref b)], [.int 2, .ref b], M4_, 17905, 116512) l_L_law_393 rfl ?_
  refine lr _ (395, [some (.ref 1000000), some (.ref b1), some (.ref b2), some (.int x3), some (.int v), some (.int c5), some (.int c6), some (.int c7), some (.ref b)], [.int 0, .int 2, .ref b], M4_, 17905, 116512) l_L_law_394 rfl ?_
  refine lr _ (396, [some (.ref 1000000), some (.ref b1), some (.ref b2), some (.int x3), some (.int v), some (.int c5), some (.int c6), some (.int c7), some (.ref b)], [.int 0, .int 0, .int 2, .ref b], M4_, 17905, 116512) l_L_law_395 rfl ?_
  refine lr _ (397, [some (.ref 1000000), some (.ref b1), some (.ref b2), some (.int x3), some (.int v), some (.int c5), some (.int c6), some (.int c7), some (.ref b)], [.int 0, .int 0, .int 0, .int 2, .ref b], M4_, 17905, 116512) l_L_law_396 rfl ?_
  refine lc_own [2, 0, 0, 0] _ (a_act2 0 0 0 y_a2 (fun e he => by cases he; decide)) A4_ (by omega) l_L_law_397 rfl rfl g_L_act (by decide) (by decide) (by decide) True.intro rfl rfl (fun M5_ A5_ F5_ => ?_)
  show mw_Wp sc mw_Good d_L_law 400 (400, [some (.ref 1000000), some (.ref b1), some (.ref b2), some (.int x3), some (.int v), some (.int c5), some (.int c6), some (.int c7), some (.ref b)], [.int (of_a (.inl 0))], M5_, 17901, 116488) Qr Qx
  have A5_k0 := A4_k0.oth F5_ (Or.inl hd)
  have hn5 : ∀ x, 1000000 ≤ x → M5_.2.2.2.2.1 x = none := fun x a => F5_.2.2 x a (hn4 x a)
  refine lr _ (401, [some (.ref 1000000), some (.ref b1), some (.ref b2), some (.int x3), some (.int v), some (.int c5), some (.int c6), some (.int c7), some (.ref b)], [.int (-1), .int (of_a (.inl 0))], M5_, 17901, 116488) l_L_law_400 rfl ?_
  refine lbF _ (¬ (of_a (.inl 0)) = (-1)) (432, [some (.ref 1000000), some (.ref b1), some (.ref b2), some (.int x3), some (.int v), some (.int c5), some (.int c6), some (.int c7), some (.ref b)], [], M5_, 17901, 116488) (404, [some (.ref 1000000), some (.ref b1), some (.ref b2), some (.int x3), some (.int v), some (.int c5), some (.int c6), some (.int c7), some (.ref b)], [], M5_, 17901, 116488) l_L_law_401 rfl (by decide) ?_
  refine lr _ (406, [some (.ref 1000000), some (.ref b1), some (.ref b2), some (.int x3), some (.int v), some (.int c5), some (.int c6), some (.int c7), some (.ref b)], [.ref b], M5_, 17901, 116488) l_L_law_404 rfl ?_
  refine lr _ (407, [some (.ref 1000000), some (.ref b1), some (.ref b2), some (.int x3), some (.int v), some (.int c5), some (.int c6), some (.int c7), some (.ref b)], [.int 4, .ref b], M5_, 17901, 116488) l_L_law_406 rfl ?_
  refine lr _ (408, [some (.ref 1000000), some (.ref b1), some (.ref b2), some (.int x3), some (.int v), some (.int c5), some (.int c6), some (.int c7), some (.ref b)], [.int 0, .int 4, .ref b], M5_, 17901, 116488) l_L_law_407 rfl ?_
  refine lr _ (409, [some (.ref 1000000), some (.ref b1), some (.ref b2), some (.int x3), some (.int v), some (.int c5), some (.int c6), some (.int c7), some (.ref b)], [.int 0, .int 0, .int 4, .ref b], M5_, 17901, 116488) l_L_law_408 rfl ?_
  refine lr _ (410, [some (.ref 1000000), some (.ref b1), some (.ref b2), some (.int x3), some (.int v), some (.int c5), some (.int c6), some (.int c7), some (.ref b)], [.int 0, .int 0, .int 0, .int 4, .ref b], M5_, 17901, 116488) l_L_law_409 rfl ?_
  refine lc_own [4, 0, 0, 0] _ (a_act4 0 0 0 y_a4 (fun e he => by cases he; decide)) A5_ (by omega) l_L_law_410 rfl rfl g_L_act (by decide) (by decide) (by decide) True.intro rfl rfl (fun M6_ A6_ F6_ => ?_)
  show mw_Wp sc mw_Good d_L_law 400 (413, [some (.ref 1000000), some (.ref b1), some (.ref b2), some (.int x3), some (.int v), some (.int c5), some (.int c6), some (.int c7), some (.ref b)], [.int (of_a (.inl 4))], M6_, 17897, 116464) Qr Qx
  have A6_k0 := A5_k0.oth F6_ (Or.inl hd)
  have hn6 : ∀ x, 1000000 ≤ x → M6_.2.2.2.2.1 x = none := fun x a => F6_.2.2 x a (hn5 x a)
  refine lr _ (415, [some (.ref 1000000), some (.ref b1), some (.ref b2), some (.int x3), some (.int v), some (.int c5), some (.int c6), some (.int c7), some (.ref b)], [.int (-5), .int (of_a (.inl 4))], M6_, 17897, 116464) l_L_law_413 rfl ?_
  refine lbF _ (¬ (of_a (.inl 4)) = (-5)) (432, [some (.ref 1000000), some (.ref b1), some (.ref b2), some (.int x3), some (.int v), some (.int c5), some (.int c6), some (.int c7), some (.ref b)], [], M6_, 17897, 116464) (418, [some (.ref 1000000), some (.ref b1), some (.ref b2), some (.int x3), some (.int v), some (.int c5), some (.int c6), some (.int c7), some (.ref b)], [], M6_, 17897, 116464) l_L_law_415 rfl (by decide) ?_
  refine lr _ (420, [some (.ref 1000000), some (.ref b1), some (.ref b2), some (.int x3), some (.int v), some (.int c5), some (.int c6), some (.int c7), some (.ref b)], [.ref b], M6_, 17897, 116464) l_L_law_418 rfl ?_
  refine lr _ (422, [some (.ref 1000000), some (.ref b1), some (.ref b2), some (.int x3), some (.int v), some (.int c5), some (.int c6), some (.int c7), some (.ref b)], [.int 17, .ref b], M6_, 17897, 116464) l_L_law_420 rfl ?_
  refine lr _ (423, [some (.ref 1000000), some (.ref b1), some (.ref b2), some (.int x3), some (.int v), some (.int c5), some (.int c6), some (.int c7), some (.ref b)], [.int 0, .int 17, .ref b], M6_, 17897, 116464) l_L_law_422 rfl ?_
  refine lr _ (424, [some (.ref 1000000), some (.ref b1), some (.ref b2), some (.int x3), some (.int v), some (.int c5), some (.int c6), some (.int c7), some (.ref b)], [.int 0, .int 0, .int 17, .ref b], M6_, 17897, 116464) l_L_law_423 rfl ?_
  refine lr _ (425, [some (.ref 1000000), some (.ref b1), some (.ref b2), some (.int x3), some (.int v), some (.int c5), some (.int c6), some (.int c7), some (.ref b)], [.int 0, .int 0, .int 0, .int 17, .ref b], M6_, 17897, 116464) l_L_law_424 rfl ?_
  refine lc_own [17, 0, 0, 0] _ (a_act17 0 0 0 (y_a17 rfl) (fun e he => by cases he; decide)) A6_ (by omega) l_L_law_425 rfl rfl g_L_act (by decide) (by decide) (by decide) True.intro rfl rfl (fun M7_ A7_ F7_ => ?_)
  show mw_Wp sc mw_Good d_L_law 400 (428, [some (.ref 1000000), some (.ref b1), some (.ref b2), some (.int x3), some (.int v), some (.int c5), some (.int c6), some (.int c7), some (.ref b)], [.int (of_a (.inl 0))], M7_, 17893, 116440) Qr Qx
  have A7_k0 := A6_k0.oth F7_ (Or.inl hd)
  have hn7 : ∀ x, 1000000 ≤ x → M7_.2.2.2.2.1 x = none := fun x a => F7_.2.2 x a (hn6 x a)
  refine lr _ (429, [some (.ref 1000000), some (.ref b1), some (.ref b2), some (.int x3), some (.int v), some (.int c5), some (.int c6), some (.int c7), some (.ref b)], [.int (-1), .int (of_a (.inl 0))], M7_, 17893, 116440) l_L_law_428 rfl ?_
  refine lbT _ ((of_a (.inl 0)) = (-1)) (434, [some (.ref 1000000), some (.ref b1), some (.ref b2), some (.int x3), some (.int v), some (.int c5), some (.int c6), some (.int c7), some (.ref b)], [], M7_, 17893, 116440) (432, [some (.ref 1000000), some (.ref b1), some (.ref b2), some (.int x3), some (.int v), some (.int c5), some (.int c6), some (.int c7), some (.ref b)], [], M7_, 17893, 116440) l_L_law_429 rfl (by decide) ?_
  exact K _ (A7_.up (by omega) (by omega)) A7_k0 hn7
end
