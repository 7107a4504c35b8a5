/-! the law walked: texts of the example -/
section
variable {sc : Nat × (Nat → Int32)} {M : mw_Mem} {Qr : Option Value → mw_Mem → Prop} {Qx : Nat → mw_Mem → Prop} {w : of_S}
theorem w_9 {s0 s1 : of_S} {b1 b2 b : Nat} {x3 v c5 c6 c7 : Int32} {v1 v2 v3 v4 v5 : Int} {B : Int} (O1 : Off b1 302 M w B) (O3 : Off b 302 M s0 1000) (hd : b1 + 303 ≤ b) (hkn : ∀ x, 1000000 ≤ x → M.2.2.2.2.1 x = none) 
    (h1 : of_call d_X11_run [] s0 (of_v (.inr v1)) s1 2200)
    (h2 : ¬ (¬ (Int32.ofInt v1) = 5))
    (h3 : of_call d_X11_cheapestNet [] s1 (of_v (.inr v2)) s1 0)
    (h4 : ¬ (¬ (Int32.ofInt v2) = (c7 + 3)))
    (h5 : of_call d_X11_cheapestNetByGrowing [] s1 (of_v (.inr v3)) s1 0)
    (h6 : ¬ (¬ (Int32.ofInt v3) = (c7 + 3)))
    (h7 : of_call d_X11_wayHours ([(0 : Int32), 2].map (fun v => (.inl v.toInt : nw_V))) s1 (of_v (.inr v4)) s1 0)
    (h8 : ¬ (¬ (Int32.ofInt v4) = (c7 + 3)))
    (h9 : of_call d_X11_wayHoursByTable ([(2 : Int32), 0].map (fun v => (.inl v.toInt : nw_V))) s1 (of_v (.inr v5)) s1 0)
    (h10 : ¬ (¬ (Int32.ofInt v5) = (c7 + 3)))
    (h11 : la sc d_L_act [9, 0, 3, 0] s1 (-1 : Int32) s1 0 22 4 24)
    (K : ∀ (M' : mw_Mem), Off b 302 M' s1 3500 → Off b1 302 M' w B → (∀ x, 1000000 ≤ x → M'.2.2.2.2.1 x = none) → mw_Wp sc mw_Good d_L_law 400 (543, [some (.ref 1000000), some (.ref b1), some (.ref b2), some (.int x3), some (.int v), some (.int c5), some (.int c6), some (.int c7), some (.ref b)], [], M', 17622, 114276) Qr Qx) : mw_Wp sc mw_Good d_L_law 400 (466, [some (.ref 1000000), some (.ref b1), some (.ref b2), some (.int x3), some (.int v), some (.int c5), some (.int c6), some (.int c7), some (.ref b)], [], M, 17646, 114420) Qr Qx := by
  refine lr _ (468, [some (.ref 1000000), some (.ref b1), some (.ref b2), some (.int x3), some (.int v), some (.int c5), some (.int c6), some (.int c7), some (.ref b)], [.ref b], M, 17646, 114420) l_L_law_466 rfl ?_
  refine lc_call [] h1 O3 (by omega) l_L_law_468 rfl rfl g_X11_run (by decide) (by decide) (by decide) rfl rfl (fun R9 h9 => Or.inl ⟨_, _, rfl, h9⟩) (of_v_nr _) (fun M1_ A1_ F1_ => ?_)
  show mw_Wp sc mw_Good d_L_law 400 (471, [some (.ref 1000000), some (.ref b1), some (.ref b2), some (.int x3), some (.int v), some (.int c5), some (.int c6), some (.int c7), some (.ref b)], [.int (Int32.ofInt v1)], M1_, 17642, 114396) Qr Qx
  have A1_k0 := O1.oth F1_ (Or.inl hd)
  have hn1 : ∀ x, 1000000 ≤ x → M1_.2.2.2.2.1 x = none := fun x a => F1_.2.2 x a (hkn x a)
  refine lr _ (472, [some (.ref 1000000), some (.ref b1), some (.ref b2), some (.int x3), some (.int v), some (.int c5), some (.int c6), some (.int c7), some (.ref b)], [.int 5, .int (Int32.ofInt v1)], M1_, 17642, 114396) l_L_law_471 rfl ?_
  refine lbF _ (¬ (Int32.ofInt v1) = 5) (541, [some (.ref 1000000), some (.ref b1), some (.ref b2), some (.int x3), some (.int v), some (.int c5), some (.int c6), some (.int c7), some (.ref b)], [], M1_, 17642, 114396) (475, [some (.ref 1000000), some (.ref b1), some (.ref b2), some (.int x3), some (.int v), some (.int c5), some (.int c6), some (.int c7), some (.ref b)], [], M1_, 17642, 114396) l_L_law_472 rfl h2 ?_
  refine lr _ (477, [some (.ref 1000000), some (.ref b1), some (.ref b2), some (.int x3), some (.int v), some (.int c5), some (.int c6), some (.int c7), some (.ref b)], [.ref b], M1_, 17642, 114396) l_L_law_475 rfl ?_
  refine lc_call [] h3 A1_ (by omega) l_L_law_477 rfl rfl g_X11_cheapestNet (by decide) (by decide) (by decide) rfl rfl (fun R9 h9 => Or.inl ⟨_, _, rfl, h9⟩) (of_v_nr _) (fun M2_ A2_ F2_ => ?_)
  show mw_Wp sc mw_Good d_L_law 400 (480, [some (.ref 1000000), some (.ref b1), some (.ref b2), some (.int x3), some (.int v), some (.int c5), some (.int c6), some (.int c7), some (.ref b)], [.int (Int32.ofInt v2)], M2_, 17638, 114372) Qr Qx
  have A2_k0 := A1_k0.oth F2_ (Or.inl hd)
  have hn2 : ∀ x, 1000000 ≤ x → M2_.2.2.2.2.1 x = none := fun x a => F2_.2.2 x a (hn1 x a)
  refine lr _ (482, [some (.ref 1000000), some (.ref b1), some (.ref b2), some (.int x3), some (.int v), some (.int c5), some (.int c6), some (.int c7), some (.ref b)], [.int c7, .int (Int32.ofInt v2)], M2_, 17638, 114372) l_L_law_480 rfl ?_
  refine lr _ (483, [some (.ref 1000000), some (.ref b1), some (.ref b2), some (.int x3), some (.int v), some (.int c5), some (.int c6), some (.int c7), some (.ref b)], [.int 3, .int c7, .int (Int32.ofInt v2)], M2_, 17638, 114372) l_L_law_482 rfl ?_
  refine lr _ (484, [some (.ref 1000000), some (.ref b1), some (.ref b2), some (.int x3), some (.int v), some (.int c5), some (.int c6), some (.int c7), some (.ref b)], [.int (c7 + 3), .int (Int32.ofInt v2)], M2_, 17638, 114372) l_L_law_483 rfl ?_
  refine lbF _ (¬ (Int32.ofInt v2) = (c7 + 3)) (541, [some (.ref 1000000), some (.ref b1), some (.ref b2), some (.int x3), some (.int v), some (.int c5), some (.int c6), some (.int c7), some (.ref b)], [], M2_, 17638, 114372) (487, [some (.ref 1000000), some (.ref b1), some (.ref b2), some (.int x3), some (.int v), some (.int c5), some (.int c6), some (.int c7), some (.ref b)], [], M2_, 17638, 114372) l_L_law_484 rfl h4 ?_
  refine lr _ (489, [some (.ref 1000000), some (.ref b1), some (.ref b2), some (.int x3), some (.int v), some (.int c5), some (.int c6), some (.int c7), some (.ref b)], [.ref b], M2_, 17638, 114372) l_L_law_487 rfl ?_
  refine lc_call [] h5 A2_ (by omega) l_L_law_489 rfl rfl g_X11_cheapestNetByGrowing (by decide) (by decide) (by decide) rfl rfl (fun R9 h9 => Or.inl ⟨_, _, rfl, h9⟩) (of_v_nr _) (fun M3_ A3_ F3_ => ?_)
  show mw_Wp sc mw_Good d_L_law 400 (492, [some (.ref 1000000), some (.ref b1), some (.ref b2), some (.int x3), some (.int v), some (.int c5), some (.int c6), some (.int c7), some (.ref b)], [.int (Int32.ofInt v3)], M3_, 17634, 114348) Qr Qx
  have A3_k0 := A2_k0.oth F3_ (Or.inl hd)
  have hn3 : ∀ x, 1000000 ≤ x → M3_.2.2.2.2.1 x = none := fun x a => F3_.2.2 x a (hn2 x a)
  refine lr _ (494, [some (.ref 1000000), some (.ref b1), some (.ref b2), some (.int x3), some (.int v), some (.int c5), some (.int c6), some (.int c7), some (.ref b)], [.int c7, .int (Int32.ofInt v3)], M3_, 17634, 114348) l_L_law_492 rfl ?_
  refine lr _ (495, [some (.ref 1000000), some (.ref b1), some (.ref b2), some (.int x3), some (.int v), some (.int c5), some (.int c6), some (.int c7), some (.ref b)], [.int 3, .int c7, .int (Int32.ofInt v3)], M3_, 17634, 114348) l_L_law_494 rfl ?_
  refine lr _ (496, [some (.ref 1000000), some (.ref b1), some (.ref b2), some (.int x3), some (.int v), some (.int c5), some (.int c6), some (.int c7), some (.ref b)], [.int (c7 + 3), .int (Int32.ofInt v3)], M3_, 17634, 114348) l_L_law_495 rfl ?_
  refine lbF _ (¬ (Int32.ofInt v3) = (c7 + 3)) (541, [some (.ref 1000000), some (.ref b1), some (.ref b2), some (.int x3), some (.int v), some (.int c5), some (.int c6), some (.int c7), some (.ref b)], [], M3_, 17634, 114348) (499, [some (.ref 1000000), some (.ref b1), some (.ref b2), some (.int x3), some (.int v), some (.int c5), some (.int c6), some (.int c7), some (.ref b)], [], M3_, 17634, 114348) l_L_law_496 rfl h6 ?_
  refine lr _ (501, [some (.ref 1000000), some (.ref b1), some (.ref b2), some (.int x3), some (.int v), some (.int c5), some (.int c6), some (.int c7), some (.ref b)], [.ref b], M3_, 17634, 114348) l_L_law_499 rfl ?_
  refine lr _ (502, [some (.ref 1000000), some (.ref b1), some (.ref b2), some (.int x3), some (.int v), some (.int c5), some (.int c6), some (.int c7), some (.ref b)], [.int 0, .ref b], M3_, 17634, 114348) l_L_law_501 rfl ?_
  refine lr _ (503, [some (.ref 1000000), some (.ref b1), some (.ref b2), some (.int x3), some (.int v), some (.int c5), some (.int c6), some (.int c7), some (.ref b)], [.int 2, .int 0, .ref b], M3_, 17634, 114348) l_L_law_502 rfl ?_
  refine lc_call [0, 2] h7 A3_ (by omega) l_L_law_503 rfl rfl g_X11_wayHours (by decide) (by decide) (by decide) rfl rfl (fun R9 h9 => Or.inl ⟨_, _, rfl, h9⟩) (of_v_nr _) (fun M4_ A4_ F4_ => ?_)
  show mw_Wp sc mw_Good d_L_law 400 (506, [some (.ref 1000000), some (.ref b1), some (.ref b2), some (.int x3), some (.int v), some (.int c5), some (.int c6), some (.int c7), some (.ref b)], [.int (Int32.ofInt v4)], M4_, 17630, 114324) Qr Qx
  have A4_k0 := A3_k0.oth F4_ (Or.inl hd)
  have hn4 : ∀ x, 1000000 ≤ x → M4_.2.2.2.2.1 x = none := fun x a => F4_.2.2 x a (hn3 x a)
  refine lr _ (508, [some (.ref 1000000), some (.ref b1), some (.ref b2), some (.int x3), some (.int v), some (.int c5), some (.int c6), some (.int c7), some (.ref b)], [.int c7, .int (Int32.ofInt v4)], M4_, 17630, 114324) l_L_law_506 rfl ?_
  refine lr _ (509, [some (.ref 1000000), some (.ref b1), some (.ref b2), some (.int x3), some (.int v), some (.int c5), some (.int c6), some (.int c7), some (.ref b)], [.int 3, .int c7, .int (Int32.ofInt v4)], M4_, 17630, 114324) l_L_law_508 rfl ?_
  refine lr _ (510, [some (.ref 1000000), some (.ref b1), some (.ref b2), some (.int x3), some (.int v), some (.int c5), some (.int c6), some (.int c7), some (.ref b)], [.int (c7 + 3), .int (Int32.ofInt v4)], M4_, 17630, 114324) l_L_law_509 rfl ?_
  refine lbF _ (¬ (Int32.ofInt v4) = (c7 + 3)) (541, [some (.ref 1000000), some (.ref b1), some (.ref b2), some (.int x3), some (.int v), some (.int c5), some (.int c6), some (.int c7), some (.ref b)], [], M4_, 17630, 114324) (513, [some (.ref 1000000), some (.ref b1), some (.ref b2), some (.int x3), some (.int v), some (.int c5), some (.int c6), some (.int c7), some (.ref b)], [], M4_, 17630, 114324) l_L_law_510 rfl h8 ?_
  refine lr _ (515, [some (.ref 1000000), some (.ref b1), some (.ref b2), some (.int x3), some (.int v), some (.int c5), some (.int c6), some (.int c7), some (.ref b)], [.ref b], M4_, 17630, 114324) l_L_law_513 rfl ?_
  refine lr _ (516, [some (.ref 1000000), some (.ref b1), some (.ref b2), some (.int x3), some (.int v), some (.int c5), some (.int c6), some (.int c7), some (.ref b)], [.int 2, .ref b], M4_, 17630, 114324) l_L_law_515 rfl ?_
  refine lr _ (517, [some (.ref 1000000), some (.ref b1), some (.ref b2), some (.int x3), some (.int v), some (.int c5), some (.int c6), some (.int c7), some (.ref b)], [.int 0, .int 2, .ref b], M4_, 17630, 114324) l_L_law_516 rfl ?_
  refine lc_call [2, 0] h9 A4_ (by omega) l_L_law_517 rfl rfl g_X11_wayHoursByTable (by decide) (by decide) (by decide) rfl rfl (fun R9 h9 => Or.inl ⟨_, _, rfl, h9⟩) (of_v_nr _) (fun M5_ A5_ F5_ => ?_)
  show mw_Wp sc mw_Good d_L_law 400 (520, [some (.ref 1000000), some (.ref b1), some (.ref b2), some (.int x3), some (.int v), some (.int c5), some (.int c6), some (.int c7), some (.ref b)], [.int (Int32.ofInt v5)], M5_, 17626, 114300) Qr Qx
  have A5_k0 := A4_k0.oth F5_ (Or.inl hd)
  have hn5 : ∀ x, 1000000 ≤ x → M5_.2.2.2.2.1 x = none := fun x a => F5_.2.2 x a (hn4 x a)
  refine lr _ (522, [some (.ref 1000000), some (.ref b1), some (.ref b2), some (.int x3), some (.int v), some (.int c5), some (.int c6), some (.int c7), some (.ref b)], [.int c7, .int (Int32.ofInt v5)], M5_, 17626, 114300) l_L_law_520 rfl ?_
  refine lr _ (523, [some (.ref 1000000), some (.ref b1), some (.ref b2), some (.int x3), some (.int v), some (.int c5), some (.int c6), some (.int c7), some (.ref b)], [.int 3, .int c7, .int (Int32.ofInt v5)], M5_, 17626, 114300) l_L_law_522 rfl ?_
  refine lr _ (524, [some (.ref 1000000), some (.ref b1), some (.ref b2), some (.int x3), some (.int v), some (.int c5), some (.int c6), some (.int c7), some (.ref b)], [.int (c7 + 3), .int (Int32.ofInt v5)], M5_, 17626, 114300) l_L_law_523 rfl ?_
  refine lbF _ (¬ (Int32.ofInt v5) = (c7 + 3)) (541, [some (.ref 1000000), some (.ref b1), some (.ref b2), some (.int x3), some (.int v), some (.int c5), some (.int c6), some (.int c7), some (.ref b)], [], M5_, 17626, 114300) (527, [some (.ref 1000000), some (.ref b1), some (.ref b2), some (.int x3), some (.int v), some (.int c5), some (.int c6), some (.int c7), some (.ref b)], [], M5_, 17626, 114300) l_L_law_524 rfl h10 ?_
  refine lr _ (529, [some (.ref 1000000), some (.ref b1), some (.ref b2), some (.int x3), some (.int v), some (.int c5), some (.int c6), some (.int c7), some (.ref b)], [.ref b], M5_, 17626, 114300) l_L_law_527 rfl ?_
  refine lr _ (531, [some (.ref 1000000), some (.ref b1), some (.ref b2), some (.int x3), some (.int v), some (.int c5), some (.int c6), some (.int c7), some (.ref b)], [.int 9, .ref b], M5_, 17626, 114300) l_L_law_529 rfl ?_
  refine lr _ (532, [some (.ref 1000000), some (.ref b1), some (.ref b2), some (.int x3), some (.int v), some (.int c5), some (.int c6), some (.int c7), some (.ref b)], [.int 0, .int 9, .ref b], M5_, 17626, 114300) l_L_law_531 rfl ?_
  refine lr _ (533, [some (.ref 1000000), some (.ref b1), some (.ref b2), some (.int x3), some (.int v), some (.int c5), some (.int c6), some (.int c7), some (.ref b)], [.int 3, .int 0, .int 9, .ref b], M5_, 17626, 114300) l_L_law_532 rfl ?_
  refine lr _ (534, [some (.ref 1000000), some (.ref b1), some (.ref b2), some (.int x3), some (.int v), some (.int c5), some (.int c6), some (.int c7), some (.ref b)], [.int 0, .int 3, .int 0, .int 9, .ref b], M5_, 17626, 114300) l_L_law_533 rfl ?_
  refine lc_own [9, 0, 3, 0] _ h11 A5_ (by omega) l_L_law_534 rfl rfl g_L_act (by decide) (by decide) (by decide) True.intro rfl rfl (fun M6_ A6_ F6_ => ?_)
  show mw_Wp sc mw_Good d_L_law 400 (537, [some (.ref 1000000), some (.ref b1), some (.ref b2), some (.int x3), some (.int v), some (.int c5), some (.int c6), some (.int c7), some (.ref b)], [.int (-1 : Int32)], M6_, 17622, 114276) Qr Qx
  have A6_k0 := A5_k0.oth F6_ (Or.inl hd)
  have hn6 : ∀ x, 1000000 ≤ x → M6_.2.2.2.2.1 x = none := fun x a => F6_.2.2 x a (hn5 x a)
  refine lr _ (538, [some (.ref 1000000), some (.ref b1), some (.ref b2), some (.int x3), some (.int v), some (.int c5), some (.int c6), some (.int c7), some (.ref b)], [.int (-1), .int (-1 : Int32)], M6_, 17622, 114276) l_L_law_537 rfl ?_
  refine lbT _ ((-1 : Int32) = (-1)) (543, [some (.ref 1000000), some (.ref b1), some (.ref b2), some (.int x3), some (.int v), some (.int c5), some (.int c6), some (.int c7), some (.ref b)], [], M6_, 17622, 114276) (541, [some (.ref 1000000), some (.ref b1), some (.ref b2), some (.int x3), some (.int v), some (.int c5), some (.int c6), some (.int c7), some (.ref b)], [], M6_, 17622, 114276) l_L_law_538 rfl (by decide) ?_
  exact K _ (A6_.up (by omega) (by omega)) A6_k0 hn6
theorem w_10 {s0 : of_S} {b1 b2 b : Nat} {x3 v c5 c6 c7 : Int32} {l : List Int} {B : Int} (O1 : Off b1 302 M w B) (O3 : Off b 302 M s0 3500) (hd : b1 + 303 ≤ b) (hkn : ∀ x, 1000000 ≤ x → M.2.2.2.2.1 x = none) (hw : s0.2.2.1.1 = 0) (hl : l.length ≤ 60 ∧ ∀ k, k < l.length → 32 ≤ l.getD k 0 ∧ l.getD k 0 ≤ 126) (hcatA : ky_all 1000026 c6 1000027 l) (hkdA : ky_kds 1000026 c6 1000027 = true)
    (K : ∀ (M' : mw_Mem), Off b 302 M' (of_T s0 (tx_put s0.2.2.1 (fun k => l.getD k 0) l.length)) 3500 → Off b1 302 M' w B → (∀ x, 1000000 ≤ x → M'.2.2.2.2.1 x = none) → mw_Wp sc mw_Good d_L_law 400 (575, [some (.ref 1000000), some (.ref b1), some (.ref b2), some (.int x3), some (.int v), some (.int c5), some (.int c6), some (.int c7), some (.ref b)], [], M', 17375, 112256) Qr Qx) : mw_Wp sc mw_Good d_L_law 400 (543, [some (.ref 1000000), some (.ref b1), some (.ref b2), some (.int x3), some (.int v), some (.int c5), some (.int c6), some (.int c7), some (.ref b)], [], M, 17622, 114276) Qr Qx := by
  refine lr _ (545, [some (.ref 1000000), some (.ref b1), some (.ref b2), some (.int x3), some (.int v), some (.int c5), some (.int c6), some (.int c7), some (.ref b)], [.ref b], M, 17622, 114276) l_L_law_543 rfl ?_
  obtain ⟨uA, euA⟩ : ∃ u, u = M.2.2.2.2.2 := ⟨_, rfl⟩
  refine mw_Wp.fact (fun hMA => ?_)
  have hMA : M.2.2.2.2.2 ≤ 990000 := hMA
  obtain ⟨m1A, m2A, m3A, m4A, m5A, a5A, ⟨h1A, d1A, n1A⟩, ⟨h2A, d2A, n2A⟩, ⟨h3A, d3A, n3A⟩, ⟨h4A, d4A, n4A⟩, ⟨h5A, d5A, n5A, alA⟩, txA⟩ := hcatA
  obtain ⟨k1A, k2A, k3A, k4A⟩ := ky_kds_ok hkdA h1A h2A h3A h4A
  have s0A : mw_sub uA (kx_m ky_m0) (mw_ncell M (1, 4)) := by rw [euA]; exact ky_sub0 hMA
  rw [← euA] at hMA
  refine lr _ (548, [some (.ref 1000000), some (.ref b1), some (.ref b2), some (.int x3), some (.int v), some (.int c5), some (.int c6), some (.int c7), some (.ref b)], [.ref M.2.2.2.2.2, .ref b], (mw_ncell M (1, 4)), 17621, 114272) l_L_law_545 rfl ?_
  rw [← euA]
  refine lr _ (549, [some (.ref 1000000), some (.ref b1), some (.ref b2), some (.int x3), some (.int v), some (.int c5), some (.int c6), some (.int c7), some (.ref b)], [.ref uA, .ref uA, .ref b], (mw_ncell M (1, 4)), 17621, 114272) l_L_law_548 rfl ?_
  refine lc_ky h1A s0A hMA rfl d1A n1A l_L_law_549 rfl rfl rfl g_J4_init_da8c8 (by decide) (by decide) (by decide) ⟨_, rfl, fun z => absurd z (by decide)⟩ (by rw [List.map_cons, List.map_cons, show ky_v (.inr (some 0)) = .ref 0 from rfl, upu hMA]; rfl) rfl (fun N1A s1A f1A => ?_)
  show mw_Wp sc mw_Good d_L_law 400 (552, [some (.ref 1000000), some (.ref b1), some (.ref b2), some (.int x3), some (.int v), some (.int c5), some (.int c6), some (.int c7), some (.ref b)], [.ref uA, .ref b], N1A, 17620, 114256) Qr Qx
  refine lr _ (555, [some (.ref 1000000), some (.ref b1), some (.ref b2), some (.int x3), some (.int v), some (.int c5), some (.int c6), some (.int c7), some (.ref b)], [.ref 1000026, .ref uA, .ref b], N1A, 17620, 114256) l_L_law_552 rfl ?_
  refine lc_ky h2A s1A hMA d1A d2A n2A l_L_law_555 rfl rfl rfl g_J4_append_15ec4 (by decide) (by decide) (by decide) (Or.inl ⟨_, _, rfl, (by have q := (s1A.2 0 _ k1A).1; rw [Nat.zero_add] at q; exact q)⟩) (by rw [List.map_cons, List.map_cons, show ky_v (.inr (some 0)) = .ref 0 from rfl, upu hMA]; rfl) rfl (fun N2A s2A f2A => ?_)
  show mw_Wp sc mw_Good d_L_law 400 (558, [some (.ref 1000000), some (.ref b1), some (.ref b2), some (.int x3), some (.int v), some (.int c5), some (.int c6), some (.int c7), some (.ref b)], [mw_upV uA (.ref 0), .ref b], N2A, 17619, 114106) Qr Qx
  rw [upu hMA]
  refine lr _ (560, [some (.ref 1000000), some (.ref b1), some (.ref b2), some (.int x3), some (.int v), some (.int c5), some (.int c6), some (.int c7), some (.ref b)], [.int c6, .ref uA, .ref b], N2A, 17619, 114106) l_L_law_558 rfl ?_
  refine lc_ky h3A s2A hMA d2A d3A n3A l_L_law_560 rfl rfl rfl g_J4_append_bf812 (by decide) (by decide) (by decide) (Or.inl ⟨_, _, rfl, (by have q := (s2A.2 0 _ k2A).1; rw [Nat.zero_add] at q; exact q)⟩) (by rw [List.map_cons, List.map_cons, show ky_v (.inr (some 0)) = .ref 0 from rfl, upu hMA]; rfl) rfl (fun N3A s3A f3A => ?_)
  show mw_Wp sc mw_Good d_L_law 400 (563, [some (.ref 1000000), some (.ref b1), some (.ref b2), some (.int x3), some (.int v), some (.int c5), some (.int c6), some (.int c7), some (.ref b)], [mw_upV uA (.ref 0), .ref b], N3A, 17618, 113956) Qr Qx
  rw [upu hMA]
  refine lr _ (566, [some (.ref 1000000), some (.ref b1), some (.ref b2), some (.int x3), some (.int v), some (.int c5), some (.int c6), some (.int c7), some (.ref b)], [.ref 1000027, .ref uA, .ref b], N3A, 17618, 113956) l_L_law_563 rfl ?_
  refine lc_ky h4A s3A hMA d3A d4A n4A l_L_law_566 rfl rfl rfl g_J4_append_15ec4 (by decide) (by decide) (by decide) (Or.inl ⟨_, _, rfl, (by have q := (s3A.2 0 _ k3A).1; rw [Nat.zero_add] at q; exact q)⟩) (by rw [List.map_cons, List.map_cons, show ky_v (.inr (some 0)) = .ref 0 from rfl, upu hMA]; rfl) rfl (fun N4A s4A f4A => ?_)
  show mw_Wp sc mw_Good d_L_law 400 (569, [some (.ref 1000000), some (.ref b1), some (.ref b2), some (.int x3), some (.int v), some (.int c5), some (.int c6), some (.int c7), some (.ref b)], [mw_upV uA (.ref 0), .ref b], N4A, 17617, 113806) Qr Qx
  rw [upu hMA]
  refine lc_ky h5A s4A hMA d4A d5A n5A l_L_law_569 rfl rfl rfl g_J4_toString_0e30d (by decide) (by decide) (by decide) (Or.inl ⟨_, _, rfl, (by have q := (s4A.2 0 _ k4A).1; rw [Nat.zero_add] at q; exact q)⟩) (by rw [List.map_cons, List.map_cons, show ky_v (.inr (some 0)) = .ref 0 from rfl, upu hMA]; rfl) rfl (fun N5A s5A f5A => ?_)
  show mw_Wp sc mw_Good d_L_law 400 (572, [some (.ref 1000000), some (.ref b1), some (.ref b2), some (.int x3), some (.int v), some (.int c5), some (.int c6), some (.int c7), some (.ref b)], [mw_upV uA (.ref a5A), .ref b], N5A, 17615, 113696) Qr Qx
  refine mw_Wp.fact (fun hZA => ?_)
  have hZA : N5A.2.2.2.2.2 ≤ 990000 := hZA
  have nzA : N5A.2.2.2.2.2 = m5A.2.2.2 + uA := s5A.1
  rw [upa (a := a5A) (u := uA) (by omega)]
  have flA : LF uA M N5A := (LF.trans (by rw [euA]; exact LF.nc (Nat.le_refl _) (by rw [← euA]; omega)) f1A).trans (f2A.trans (f3A.trans (f4A.trans f5A)))
  have O3_A := O3.fr flA.1 (fun x hx => flA.2.1 x (by have := O3.kd; omega))
  have O1_A := O1.fr flA.1 (fun x hx => flA.2.1 x (by have := O1.kd; omega))
  have hnA : ∀ x, 1000000 ≤ x → N5A.2.2.2.2.1 x = none := fun x a => flA.2.2 x a (hkn x a)
  have stA := ky_Str s5A hMA d5A txA
  refine mw_Wp.cal _ d_L_put 23 240 1440 l_L_law_572 rfl rfl g_L_put (by decide) (by decide) (by decide) True.intro ?_
  refine t_put (n := l.length) (f := fun k => l.getD k 0) O3_A (by omega) (Int.le_of_eq hw.symm) (by rw [hw]; omega) hl.2 (fun M9 F9 => ky_StrF s5A hMA d5A txA F9 (by have := O3.kd; omega) (by have := O3.kd; omega)) (fun M1_ A1_ F1_ => ?_)
  show mw_Wp sc mw_Good d_L_law 400 (575, [some (.ref 1000000), some (.ref b1), some (.ref b2), some (.int x3), some (.int v), some (.int c5), some (.int c6), some (.int c7), some (.ref b)], [], M1_, 17375, 112256) Qr Qx
  have A1_k0 := O1_A.oth F1_ (Or.inl hd)
  have hn1 : ∀ x, 1000000 ≤ x → M1_.2.2.2.2.1 x = none := fun x a => F1_.2.2 x a (hnA x a)
  exact K _ A1_ A1_k0 hn1
theorem w_11 {s0 s1 : of_S} {b1 b2 b : Nat} {x3 v c5 c6 c7 : Int32} {v1 v2 v3 : Int} {B : Int} (O1 : Off b1 302 M w B) (O3 : Off b 302 M s0 3500) (hd : b1 + 303 ≤ b) (hkn : ∀ x, 1000000 ≤ x → M.2.2.2.2.1 x = none) 
    (h1 : la sc d_L_runs [] s0 (-2 : Int32) s1 2200 22 4 24)
    (h2 : of_call d_X11_failedCommand [] s1 (of_v (.inr v1)) s1 0)
    (h3 : ¬ (¬ (Int32.ofInt v1) = 3))
    (h4 : of_call d_X11_moonCount [] s1 (of_v (.inr v2)) s1 0)
    (h5 : ¬ (¬ (Int32.ofInt v2) = 0))
    (h6 : of_call d_X11_channelCount [] s1 (of_v (.inr v3)) s1 0)
    (h7 : (Int32.ofInt v3) = 2)
    (K : ∀ (M' : mw_Mem), Off b 302 M' s1 6000 → Off b1 302 M' w B → (∀ x, 1000000 ≤ x → M'.2.2.2.2.1 x = none) → mw_Wp sc mw_Good d_L_law 400 (613, [some (.ref 1000000), some (.ref b1), some (.ref b2), some (.int x3), some (.int v), some (.int c5), some (.int c6), some (.int c7), some (.ref b)], [], M', 17359, 112160) Qr Qx) : mw_Wp sc mw_Good d_L_law 400 (575, [some (.ref 1000000), some (.ref b1), some (.ref b2), some (.int x3), some (.int v), some (.int c5), some (.int c6), some (.int c7), some (.ref b)], [], M, 17375, 112256) Qr Qx := by
  refine lr _ (577, [some (.ref 1000000), some (.ref b1), some (.ref b2), some (.int x3), some (.int v), some (.int c5), some (.int c6), some (.int c7), some (.ref b)], [.ref b], M, 17375, 112256) l_L_law_575 rfl ?_
  refine lc_own [] _ h1 O3 (by omega) l_L_law_577 rfl rfl g_L_runs (by decide) (by decide) (by decide) True.intro rfl rfl (fun M1_ A1_ F1_ => ?_)
  show mw_Wp sc mw_Good d_L_law 400 (580, [some (.ref 1000000), some (.ref b1), some (.ref b2), some (.int x3), some (.int v), some (.int c5), some (.int c6), some (.int c7), some (.ref b)], [.int (-2 : Int32)], M1_, 17371, 112232) Qr Qx
  have A1_k0 := O1.oth F1_ (Or.inl hd)
  have hn1 : ∀ x, 1000000 ≤ x → M1_.2.2.2.2.1 x = none := fun x a => F1_.2.2 x a (hkn x a)
  refine lr _ (582, [some (.ref 1000000), some (.ref b1), some (.ref b2), some (.int x3), some (.int v), some (.int c5), some (.int c6), some (.int c7), some (.ref b)], [.int (-2), .int (-2 : Int32)], M1_, 17371, 112232) l_L_law_580 rfl ?_
  refine lbF _ (¬ (-2 : Int32) = (-2)) (611, [some (.ref 1000000), some (.ref b1), some (.ref b2), some (.int x3), some (.int v), some (.int c5), some (.int c6), some (.int c7), some (.ref b)], [], M1_, 17371, 112232) (585, [some (.ref 1000000), some (.ref b1), some (.ref b2), some (.int x3), some (.int v), some (.int c5), some (.int c6), some (.int c7), some (.ref b)], [], M1_, 17371, 112232) l_L_law_582 rfl (by decide) ?_
  refine lr _ (587, [some (.ref 1000000), some (.ref b1), some (.ref b2), some (.int x3), some (.int v), some (.int c5), some (.int c6), some (.int c7), some (.ref b)], [.ref b], M1_, 17371, 112232) l_L_law_585 rfl ?_
  refine lc_call [] h2 A1_ (by omega) l_L_law_587 rfl rfl g_X11_failedCommand (by decide) (by decide) (by decide) rfl rfl (fun R9 h9 => Or.inl ⟨_, _, rfl, h9⟩) (of_v_nr _) (fun M2_ A2_ F2_ => ?_)
  show mw_Wp sc mw_Good d_L_law 400 (590, [some (.ref 1000000), some (.ref b1), some (.ref b2), some (.int x3), some (.int v), some (.int c5), some (.int c6), some (.int c7), some (.ref b)], [.int (Int32.ofInt v1)], M2_, 17367, 112208) Qr Qx
  have A2_k0 := A1_k0.oth F2_ (Or.inl hd)
  have hn2 : ∀ x, 1000000 ≤ x → M2_.2.2.2.2.1 x = none := fun x a => F2_.2.2 x a (hn1 x a)
  refine lr _ (591, [some (.ref 1000000), some (.ref b1), some (.ref b2), some (.int x3), some (.int v), some (.int c5), some (.int c6), some (.int c7), some (.ref b)], [.int 3, .int (Int32.ofInt v1)], M2_, 17367, 112208) l_L_law_590 rfl ?_
  refine lbF _ (¬ (Int32.ofInt v1) = 3) (611, [some (.ref 1000000), some (.ref b1), some (.ref b2), some (.int x3), some (.int v), some (.int c5), some (.int c6), some (.int c7), some (.ref b)], [], M2_, 17367, 112208) (594, [some (.ref 1000000), some (.ref b1), some (.ref b2), some (.int x3), some (.int v), some (.int c5), some (.int c6), some (.int c7), some (.ref b)], [], M2_, 17367, 112208) l_L_law_591 rfl h3 ?_
  refine lr _ (596, [some (.ref 1000000), some (.ref b1), some (.ref b2), some (.int x3), some (.int v), some (.int c5), some (.int c6), some (.int c7), some (.ref b)], [.ref b], M2_, 17367, 112208) l_L_law_594 rfl ?_
  refine lc_call [] h4 A2_ (by omega) l_L_law_596 rfl rfl g_X11_moonCount (by decide) (by decide) (by decide) rfl rfl (fun R9 h9 => Or.inl ⟨_, _, rfl, h9⟩) (of_v_nr _) (fun M3_ A3_ F3_ => ?_)
  show mw_Wp sc mw_Good d_L_law 400 (599, [some (.ref 1000000), some (.ref b1), some (.ref b2), some (.int x3), some (.int v), some (.int c5), some (.int c6), some (.int c7), some (.ref b)], [.int (Int32.ofInt v2)], M3_, 17363, 112184) Qr Qx
  have A3_k0 := A2_k0.oth F3_ (Or.inl hd)
  have hn3 : ∀ x, 1000000 ≤ x → M3_.2.2.2.2.1 x = none := fun x a => F3_.2.2 x a (hn2 x a)
  refine lbF _ (¬ (Int32.ofInt v2) = 0) (611, [some (.ref 1000000), some (.ref b1), some (.ref b2), some (.int x3), some (.int v), some (.int c5), some (.int c6), some (.int c7), some (.ref b)], [], M3_, 17363, 112184) (602, [some (.ref 1000000), some (.ref b1), some (.ref b2), some (.int x3), some (.int v), some (.int c5), some (.int c6), some (.int c7), some (.ref b)], [], M3_, 17363, 112184) l_L_law_599 rfl h5 ?_
  refine lr _ (604, [some (.ref 1000000), some (.ref b1), some (.ref b2), some (.int x3), some (.int v), some (.int c5), some (.int c6), some (.int c7), some (.ref b)], [.ref b], M3_, 17363, 112184) l_L_law_602 rfl ?_
  refine lc_call [] h6 A3_ (by omega) l_L_law_604 rfl rfl g_X11_channelCount (by decide) (by decide) (by decide) rfl rfl (fun R9 h9 => Or.inl ⟨_, _, rfl, h9⟩) (of_v_nr _) (fun M4_ A4_ F4_ => ?_)
  show mw_Wp sc mw_Good d_L_law 400 (607, [some (.ref 1000000), some (.ref b1), some (.ref b2), some (.int x3), some (.int v), some (.int c5), some (.int c6), some (.int c7), some (.ref b)], [.int (Int32.ofInt v3)], M4_, 17359, 112160) Qr Qx
  have A4_k0 := A3_k0.oth F4_ (Or.inl hd)
  have hn4 : ∀ x, 1000000 ≤ x → M4_.2.2.2.2.1 x = none := fun x a => F4_.2.2 x a (hn3 x a)
  refine lr _ (608, [some (.ref 1000000), some (.ref b1), some (.ref b2), some (.int x3), some (.int v), some (.int c5), some (.int c6), some (.int c7), some (.ref b)], [.int 2, .int (Int32.ofInt v3)], M4_, 17359, 112160) l_L_law_607 rfl ?_
  refine lbT _ ((Int32.ofInt v3) = 2) (613, [some (.ref 1000000), some (.ref b1), some (.ref b2), some (.int x3), some (.int v), some (.int c5), some (.int c6), some (.int c7), some (.ref b)], [], M4_, 17359, 112160) (611, [some (.ref 1000000), some (.ref b1), some (.ref b2), some (.int x3), some (.int v), some (.int c5), some (.int c6), some (.int c7), some (.ref b)], [], M4_, 17359, 112160) l_L_law_608 rfl h7 ?_
  exact K _ (A4_.up (by omega) (by omega)) A4_k0 hn4
theorem w_12 {s0 : of_S} {b1 b2 b : Nat} {x3 v c5 c6 c7 : Int32} {l : List Int} {B : Int} (O1 : Off b1 302 M w B) (O3 : Off b 302 M s0 6000) (hd : b1 + 303 ≤ b) (hkn : ∀ x, 1000000 ≤ x → M.2.2.2.2.1 x = none) (hw : s0.2.2.1.1 = 0) (hl : l.length ≤ 60 ∧ ∀ k, k < l.length → 32 ≤ l.getD k 0 ∧ l.getD k 0 ≤ 126) (hcatA : ky_all 1000026 c6 1000028 l) (hkdA : ky_kds 1000026 c6 1000028 = true)
    (K : ∀ (M' : mw_Mem), Off b 302 M' (of_T s0 (tx_put s0.2.2.1 (fun k => l.getD k 0) l.length)) 6000 → Off b1 302 M' w B → (∀ x, 1000000 ≤ x → M'.2.2.2.2.1 x = none) → mw_Wp sc mw_Good d_L_law 400 (645, [some (.ref 1000000), some (.ref b1), some (.ref b2), some (.int x3), some (.int v), some (.int c5), some (.int c6), some (.int c7), some (.ref b)], [], M', 17112, 110140) Qr Qx) : mw_Wp sc mw_Good d_L_law 400 (613, [some (.ref 1000000), some (.ref b1), some (.ref b2), some (.int x3), some (.int v), some (.int c5), some (.int c6), some (.int c7), some (.ref b)], [], M, 17359, 112160) Qr Qx := by
  refine lr _ (615, [some (.ref 1000000), some (.ref b1), some (.ref b2), some (.int x3), some (.int v), some (.int c5), some (.int c6), some (.int c7), some (.ref b)], [.ref b], M, 17359, 112160) l_L_law_613 rfl ?_
  obtain ⟨uA, euA⟩ : ∃ u, u = M.2.2.2.2.2 := ⟨_, rfl⟩
  refine mw_Wp.fact (fun hMA => ?_)
  have hMA : M.2.2.2.2.2 ≤ 990000 := hMA
  obtain ⟨m1A, m2A, m3A, m4A, m5A, a5A, ⟨h1A, d1A, n1A⟩, ⟨h2A, d2A, n2A⟩, ⟨h3A, d3A, n3A⟩, ⟨h4A, d4A, n4A⟩, ⟨h5A, d5A, n5A, alA⟩, txA⟩ := hcatA
  obtain ⟨k1A, k2A, k3A, k4A⟩ := ky_kds_ok hkdA h1A h2A h3A h4A
  have s0A : mw_sub uA (kx_m ky_m0) (mw_ncell M (1, 4)) := by rw [euA]; exact ky_sub0 hMA
  rw [← euA] at hMA
  refine lr _ (618, [some (.ref 1000000), some (.ref b1), some (.ref b2), some (.int x3), some (.int v), some (.int c5), some (.int c6), some (.int c7), some (.ref b)], [.ref M.2.2.2.2.2, .ref b], (mw_ncell M (1, 4)), 17358, 112156) l_L_law_615 rfl ?_
  rw [← euA]
  refine lr _ (619, [some (.ref 1000000), some (.ref b1), some (.ref b2), some (.int x3), some (.int v), some (.int c5), some (.int c6), some (.int c7), some (.ref b)], [.ref uA, .ref uA, .ref b], (mw_ncell M (1, 4)), 17358, 112156) l_L_law_618 rfl ?_
  refine lc_ky h1A s0A hMA rfl d1A n1A l_L_law_619 rfl rfl rfl g_J4_init_da8c8 (by decide) (by decide) (by decide) ⟨_, rfl, fun z => absurd z (by decide)⟩ (by rw [List.map_cons, List.map_cons, show ky_v (.inr (some 0)) = .ref 0 from rfl, upu hMA]; rfl) rfl (fun N1A s1A f1A => ?_)
  show mw_Wp sc mw_Good d_L_law 400 (622, [some (.ref 1000000), some (.ref b1), some (.ref b2), some (.int x3), some (.int v), some (.int c5), some (.int c6), some (.int c7), some (.ref b)], [.ref uA, .ref b], N1A, 17357, 112140) Qr Qx
  refine lr _ (625, [some (.ref 1000000), some (.ref b1), some (.ref b2), some (.int x3), some (.int v), some (.int c5), some (.int c6), some (.int c7), some (.ref b)], [.ref 1000026, .ref uA, .ref b], N1A, 17357, 112140) l_L_law_622 rfl ?_
  refine lc_ky h2A s1A hMA d1A d2A n2A l_L_law_625 rfl rfl rfl g_J4_append_15ec4 (by decide) (by decide) (by decide) (Or.inl ⟨_, _, rfl, (by have q := (s1A.2 0 _ k1A).1; rw [Nat.zero_add] at q; exact q)⟩) (by rw [List.map_cons, List.map_cons, show ky_v (.inr (some 0)) = .ref 0 from rfl, upu hMA]; rfl) rfl (fun N2A s2A f2A => ?_)
  show mw_Wp sc mw_Good d_L_law 400 (628, [some (.ref 1000000), some (.ref b1), some (.ref b2), some (.int x3), some (.int v), some (.int c5), some (.int c6), some (.int c7), some (.ref b)], [mw_upV uA (.ref 0), .ref b], N2A, 17356, 111990) Qr Qx
  rw [upu hMA]
  refine lr _ (630, [some (.ref 1000000), some (.ref b1), some (.ref b2), some (.int x3), some (.int v), some (.int c5), some (.int c6), some (.int c7), some (.ref b)], [.int c6, .ref uA, .ref b], N2A, 17356, 111990) l_L_law_628 rfl ?_
  refine lc_ky h3A s2A hMA d2A d3A n3A l_L_law_630 rfl rfl rfl g_J4_append_bf812 (by decide) (by decide) (by decide) (Or.inl ⟨_, _, rfl, (by have q := (s2A.2 0 _ k2A).1; rw [Nat.zero_add] at q; exact q)⟩) (by rw [List.map_cons, List.map_cons, show ky_v (.inr (some 0)) = .ref 0 from rfl, upu hMA]; rfl) rfl (fun N3A s3A f3A => ?_)
  show mw_Wp sc mw_Good d_L_law 400 (633, [some (.ref 1000000), some (.ref b1), some (.ref b2), some (.int x3), some (.int v), some (.int c5), some (.int c6), some (.int c7), some (.ref b)], [mw_upV uA (.ref 0), .ref b], N3A, 17355, 111840) Qr Qx
  rw [upu hMA]
  refine lr _ (636, [some (.ref 1000000), some (.ref b1), some (.ref b2), some (.int x3), some (.int v), some (.int c5), some (.int c6), some (.int c7), some (.ref b)], [.ref 1000028, .ref uA, .ref b], N3A, 17355, 111840) l_L_law_633 rfl ?_
  refine lc_ky h4A s3A hMA d3A d4A n4A l_L_law_636 rfl rfl rfl g_J4_append_15ec4 (by decide) (by decide) (by decide) (Or.inl ⟨_, _, rfl, (by have q := (s3A.2 0 _ k3A).1; rw [Nat.zero_add] at q; exact q)⟩) (by rw [List.map_cons, List.map_cons, show ky_v (.inr (some 0)) = .ref 0 from rfl, upu hMA]; rfl) rfl (fun N4A s4A f4A => ?_)
  show mw_Wp sc mw_Good d_L_law 400 (639, [some (.ref 1000000), some (.ref b1), some (.ref b2), some (.int x3), some (.int v), some (.int c5), some (.int c6), some (.int c7), some (.ref b)], [mw_upV uA (.ref 0), .ref b], N4A, 17354, 111690) Qr Qx
  rw [upu hMA]
  refine lc_ky h5A s4A hMA d4A d5A n5A l_L_law_639 rfl rfl rfl g_J4_toString_0e30d (by decide) (by decide) (by decide) (Or.inl ⟨_, _, rfl, (by have q := (s4A.2 0 _ k4A).1; rw [Nat.zero_add] at q; exact q)⟩) (by rw [List.map_cons, List.map_cons, show ky_v (.inr (some 0)) = .ref 0 from rfl, upu hMA]; rfl) rfl (fun N5A s5A f5A => ?_)
  show mw_Wp sc mw_Good d_L_law 400 (642, [some (.ref 1000000), some (.ref b1), some (.ref b2), some (.int x3), some (.int v), some (.int c5), some (.int c6), some (.int c7), some (.ref b)], [mw_upV uA (.ref a5A), .ref b], N5A, 17352, 111580) Qr Qx
  refine mw_Wp.fact (fun hZA => ?_)
  have hZA : N5A.2.2.2.2.2 ≤ 990000 := hZA
  have nzA : N5A.2.2.2.2.2 = m5A.2.2.2 + uA := s5A.1
  rw [upa (a := a5A) (u := uA) (by omega)]
  have flA : LF uA M N5A := (LF.trans (by rw [euA]; exact LF.nc (Nat.le_refl _) (by rw [← euA]; omega)) f1A).trans (f2A.trans (f3A.trans (f4A.trans f5A)))
  have O3_A := O3.fr flA.1 (fun x hx => flA.2.1 x (by have := O3.kd; omega))
  have O1_A := O1.fr flA.1 (fun x hx => flA.2.1 x (by have := O1.kd; omega))
  have hnA : ∀ x, 1000000 ≤ x → N5A.2.2.2.2.1 x = none := fun x a => flA.2.2 x a (hkn x a)
  have stA := ky_Str s5A hMA d5A txA
  refine mw_Wp.cal _ d_L_put 23 240 1440 l_L_law_642 rfl rfl g_L_put (by decide) (by decide) (by decide) True.intro ?_
  refine t_put (n := l.length) (f := fun k => l.getD k 0) O3_A (by omega) (Int.le_of_eq hw.symm) (by rw [hw]; omega) hl.2 (fun M9 F9 => ky_StrF s5A hMA d5A txA F9 (by have := O3.kd; omega) (by have := O3.kd; omega)) (fun M1_ A1_ F1_ => ?_)
  show mw_Wp sc mw_Good d_L_law 400 (645, [some (.ref 1000000), some (.ref b1), some (.ref b2), some (.int x3), some (.int v), some (.int c5), some (.int c6), some (.int c7), some (.ref b)], [], M1_, 17112, 110140) Qr Qx
  have A1_k0 := O1_A.oth F1_ (Or.inl hd)
  have hn1 : ∀ x, 1000000 ≤ x → M1_.2.2.2.2.1 x = none := fun x a => F1_.2.2 x a (hnA x a)
  exact K _ A1_ A1_k0 hn1
end
