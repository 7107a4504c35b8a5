/-! the law walked: a day, and the end -/
section
variable {sc : Nat × (Nat → Int32)} {M : mw_Mem} {Qr : Option Value → mw_Mem → Prop} {Qx : Nat → mw_Mem → Prop} {w : of_S}
theorem w_19 {s0 s1 s2 s3 s4 : of_S} {b1 b2 b sb : Nat} {x3 v c5 c6 c7 : Int32} {v1 v2 v3 v4 v5 v6 v7 v8 v9 : Int} {B : Int} (O1 : Off b1 302 M w B) (O3 : Off b sb M s0 14000) (hd : b1 + 303 ≤ b) (hkn : ∀ x, 1000000 ≤ x → M.2.2.2.2.1 x = none) 
    (h1 : of_call d_X11_addFerry ([(1 : Int32), 12, 50].map (fun v => (.inl v.toInt : nw_V))) s0 (of_v (.inr v1)) s1 200)
    (h2 : ¬ (¬ (Int32.ofInt v1) = 1))
    (h3 : of_call d_X11_isStranded ([(1 : Int32)].map (fun v => (.inl v.toInt : nw_V))) s1 (of_v (.inr v2)) s1 0)
    (h4 : ¬ ((Int32.ofInt v2) = 0))
    (h5 : of_call d_X11_rescue ([(1 : Int32)].map (fun v => (.inl v.toInt : nw_V))) s1 (of_v (.inr v3)) s2 200)
    (h6 : ¬ (¬ (Int32.ofInt v3) = 0))
    (h7 : la sc d_L_act [6, 0, 0, 0] s2 (-3 : Int32) s3 200 22 4 24)
    (h8 : of_call d_X11_pass ([(20 - c7 : Int32)].map (fun v => (.inl v.toInt : nw_V))) s3 (of_v (.inr v4)) s4 200)
    (h9 : ¬ (¬ (Int32.ofInt v4) = 0))
    (h10 : of_call d_X11_phaseOf ([(1 : Int32)].map (fun v => (.inl v.toInt : nw_V))) s4 (of_v (.inr v5)) s4 0)
    (h11 : ¬ (¬ (Int32.ofInt v5) = 3))
    (h12 : of_call d_X11_phaseOf ([(2 : Int32)].map (fun v => (.inl v.toInt : nw_V))) s4 (of_v (.inr v6)) s4 0)
    (h13 : ¬ (¬ (Int32.ofInt v6) = 2))
    (h14 : of_call d_X11_strandingCount [] s4 (of_v (.inr v7)) s4 0)
    (h15 : ¬ (¬ (Int32.ofInt v7) = 0))
    (h16 : of_call d_X11_passageCount [] s4 (of_v (.inr v8)) s4 0)
    (h17 : ¬ (¬ (Int32.ofInt v8) = 2))
    (h18 : of_call d_X11_isConsistent [] s4 (of_v (.inr v9)) s4 0)
    (h19 : ¬ (Int32.ofInt v9) = 0)
    (K : ∀ (M' : mw_Mem), Off b sb M' s4 16000 → Off b1 302 M' w B → (∀ x, 1000000 ≤ x → M'.2.2.2.2.1 x = none) → mw_Wp sc mw_Good d_L_law 400 (1438, [some (.ref 1000000), some (.ref b1), some (.ref b2), some (.int x3), some (.int v), some (.int c5), some (.int c6), some (.int c7), some (.ref b)], [], M', 16438, 101720) Qr Qx) : mw_Wp sc mw_Good d_L_law 400 (1331, [some (.ref 1000000), some (.ref b1), some (.ref b2), some (.int x3), some (.int v), some (.int c5), some (.int c6), some (.int c7), some (.ref b)], [], M, 16478, 101960) Qr Qx := by
  refine lr _ (1333, [some (.ref 1000000), some (.ref b1), some (.ref b2), some (.int x3), some (.int v), some (.int c5), some (.int c6), some (.int c7), some (.ref b)], [.ref b], M, 16478, 101960) l_L_law_1331 rfl ?_
  refine lr _ (1334, [some (.ref 1000000), some (.ref b1), some (.ref b2), some (.int x3), some (.int v), some (.int c5), some (.int c6), some (.int c7), some (.ref b)], [.int 1, .ref b], M, 16478, 101960) l_L_law_1333 rfl ?_
  refine lr _ (1336, [some (.ref 1000000), some (.ref b1), some (.ref b2), some (.int x3), some (.int v), some (.int c5), some (.int c6), some (.int c7), some (.ref b)], [.int 12, .int 1, .ref b], M, 16478, 101960) l_L_law_1334 rfl ?_
  refine lr _ (1338, [some (.ref 1000000), some (.ref b1), some (.ref b2), some (.int x3), some (.int v), some (.int c5), some (.int c6), some (.int c7), some (.ref b)], [.int 50, .int 12, .int 1, .ref b], M, 16478, 101960) l_L_law_1336 rfl ?_
  refine lc_call [1, 12, 50] h1 O3 (by omega) l_L_law_1338 rfl rfl g_X11_addFerry (by decide) (by decide) (by decide) rfl rfl (fun R9 h9 => Or.inl ⟨_, _, rfl, h9⟩) (of_v_nr _) (fun M1_ A1_ F1_ => ?_)
  show mw_Wp sc mw_Good d_L_law 400 (1341, [some (.ref 1000000), some (.ref b1), some (.ref b2), some (.int x3), some (.int v), some (.int c5), some (.int c6), some (.int c7), some (.ref b)], [.int (Int32.ofInt v1)], M1_, 16474, 101936) Qr Qx
  have A1_k0 := O1.oth F1_ (Or.inl hd)
  have hn1 : ∀ x, 1000000 ≤ x → M1_.2.2.2.2.1 x = none := fun x a => F1_.2.2 x a (hkn x a)
  refine lr _ (1342, [some (.ref 1000000), some (.ref b1), some (.ref b2), some (.int x3), some (.int v), some (.int c5), some (.int c6), some (.int c7), some (.ref b)], [.int 1, .int (Int32.ofInt v1)], M1_, 16474, 101936) l_L_law_1341 rfl ?_
  refine lbF _ (¬ (Int32.ofInt v1) = 1) (1436, [some (.ref 1000000), some (.ref b1), some (.ref b2), some (.int x3), some (.int v), some (.int c5), some (.int c6), some (.int c7), some (.ref b)], [], M1_, 16474, 101936) (1345, [some (.ref 1000000), some (.ref b1), some (.ref b2), some (.int x3), some (.int v), some (.int c5), some (.int c6), some (.int c7), some (.ref b)], [], M1_, 16474, 101936) l_L_law_1342 rfl h2 ?_
  refine lr _ (1347, [some (.ref 1000000), some (.ref b1), some (.ref b2), some (.int x3), some (.int v), some (.int c5), some (.int c6), some (.int c7), some (.ref b)], [.ref b], M1_, 16474, 101936) l_L_law_1345 rfl ?_
  refine lr _ (1348, [some (.ref 1000000), some (.ref b1), some (.ref b2), some (.int x3), some (.int v), some (.int c5), some (.int c6), some (.int c7), some (.ref b)], [.int 1, .ref b], M1_, 16474, 101936) l_L_law_1347 rfl ?_
  refine lc_call [1] h3 A1_ (by omega) l_L_law_1348 rfl rfl g_X11_isStranded (by decide) (by decide) (by decide) rfl rfl (fun R9 h9 => Or.inl ⟨_, _, rfl, h9⟩) (of_v_nr _) (fun M2_ A2_ F2_ => ?_)
  show mw_Wp sc mw_Good d_L_law 400 (1351, [some (.ref 1000000), some (.ref b1), some (.ref b2), some (.int x3), some (.int v), some (.int c5), some (.int c6), some (.int c7), some (.ref b)], [.int (Int32.ofInt v2)], M2_, 16470, 101912) Qr Qx
  have A2_k0 := A1_k0.oth F2_ (Or.inl hd)
  have hn2 : ∀ x, 1000000 ≤ x → M2_.2.2.2.2.1 x = none := fun x a => F2_.2.2 x a (hn1 x a)
  refine lbF _ ((Int32.ofInt v2) = 0) (1436, [some (.ref 1000000), some (.ref b1), some (.ref b2), some (.int x3), some (.int v), some (.int c5), some (.int c6), some (.int c7), some (.ref b)], [], M2_, 16470, 101912) (1354, [some (.ref 1000000), some (.ref b1), some (.ref b2), some (.int x3), some (.int v), some (.int c5), some (.int c6), some (.int c7), some (.ref b)], [], M2_, 16470, 101912) l_L_law_1351 rfl h4 ?_
  refine lr _ (1356, [some (.ref 1000000), some (.ref b1), some (.ref b2), some (.int x3), some (.int v), some (.int c5), some (.int c6), some (.int c7), some (.ref b)], [.ref b], M2_, 16470, 101912) l_L_law_1354 rfl ?_
  refine lr _ (1357, [some (.ref 1000000), some (.ref b1), some (.ref b2), some (.int x3), some (.int v), some (.int c5), some (.int c6), some (.int c7), some (.ref b)], [.int 1, .ref b], M2_, 16470, 101912) l_L_law_1356 rfl ?_
  refine lc_call [1] h5 A2_ (by omega) l_L_law_1357 rfl rfl g_X11_rescue (by decide) (by decide) (by decide) rfl rfl (fun R9 h9 => Or.inl ⟨_, _, rfl, h9⟩) (of_v_nr _) (fun M3_ A3_ F3_ => ?_)
  show mw_Wp sc mw_Good d_L_law 400 (1360, [some (.ref 1000000), some (.ref b1), some (.ref b2), some (.int x3), some (.int v), some (.int c5), some (.int c6), some (.int c7), some (.ref b)], [.int (Int32.ofInt v3)], M3_, 16466, 101888) Qr Qx
  have A3_k0 := A2_k0.oth F3_ (Or.inl hd)
  have hn3 : ∀ x, 1000000 ≤ x → M3_.2.2.2.2.1 x = none := fun x a => F3_.2.2 x a (hn2 x a)
  refine lbF _ (¬ (Int32.ofInt v3) = 0) (1436, [some (.ref 1000000), some (.ref b1), some (.ref b2), some (.int x3), some (.int v), some (.int c5), some (.int c6), some (.int c7), some (.ref b)], [], M3_, 16466, 101888) (1363, [some (.ref 1000000), some (.ref b1), some (.ref b2), some (.int x3), some (.int v), some (.int c5), some (.int c6), some (.int c7), some (.ref b)], [], M3_, 16466, 101888) l_L_law_1360 rfl h6 ?_
  refine lr _ (1365, [some (.ref 1000000), some (.ref b1), some (.ref b2), some (.int x3), some (.int v), some (.int c5), some (.int c6), some (.int c7), some (.ref b)], [.ref b], M3_, 16466, 101888) l_L_law_1363 rfl ?_
  refine lr _ (1367, [some (.ref 1000000), some (.ref b1), some (.ref b2), some (.int x3), some (.int v), some (.int c5), some (.int c6), some (.int c7), some (.ref b)], [.int 6, .ref b], M3_, 16466, 101888) l_L_law_1365 rfl ?_
  refine lr _ (1368, [some (.ref 1000000), some (.ref b1), some (.ref b2), some (.int x3), some (.int v), some (.int c5), some (.int c6), some (.int c7), some (.ref b)], [.int 0, .int 6, .ref b], M3_, 16466, 101888) l_L_law_1367 rfl ?_
  refine lr _ (1369, [some (.ref 1000000), some (.ref b1), some (.ref b2), some (.int x3), some (.int v), some (.int c5), some (.int c6), some (.int c7), some (.ref b)], [.int 0, .int 0, .int 6, .ref b], M3_, 16466, 101888) l_L_law_1368 rfl ?_
  refine lr _ (1370, [some (.ref 1000000), some (.ref b1), some (.ref b2), some (.int x3), some (.int v), some (.int c5), some (.int c6), some (.int c7), some (.ref b)], [.int 0, .int 0, .int 0, .int 6, .ref b], M3_, 16466, 101888) l_L_law_1369 rfl ?_
  refine lc_own [6, 0, 0, 0] _ h7 A3_ (by omega) l_L_law_1370 rfl rfl g_L_act (by decide) (by decide) (by decide) True.intro rfl rfl (fun M4_ A4_ F4_ => ?_)
  show mw_Wp sc mw_Good d_L_law 400 (1373, [some (.ref 1000000), some (.ref b1), some (.ref b2), some (.int x3), some (.int v), some (.int c5), some (.int c6), some (.int c7), some (.ref b)], [.int (-3 : Int32)], M4_, 16462, 101864) Qr Qx
  have A4_k0 := A3_k0.oth F4_ (Or.inl hd)
  have hn4 : ∀ x, 1000000 ≤ x → M4_.2.2.2.2.1 x = none := fun x a => F4_.2.2 x a (hn3 x a)
  refine lr _ (1375, [some (.ref 1000000), some (.ref b1), some (.ref b2), some (.int x3), some (.int v), some (.int c5), some (.int c6), some (.int c7), some (.ref b)], [.int (-3), .int (-3 : Int32)], M4_, 16462, 101864) l_L_law_1373 rfl ?_
  refine lbF _ (¬ (-3 : Int32) = (-3)) (1436, [some (.ref 1000000), some (.ref b1), some (.ref b2), some (.int x3), some (.int v), some (.int c5), some (.int c6), some (.int c7), some (.ref b)], [], M4_, 16462, 101864) (1378, [some (.ref 1000000), some (.ref b1), some (.ref b2), some (.int x3), some (.int v), some (.int c5), some (.int c6), some (.int c7), some (.ref b)], [], M4_, 16462, 101864) l_L_law_1375 rfl (by decide) ?_
  refine lr _ (1380, [some (.ref 1000000), some (.ref b1), some (.ref b2), some (.int x3), some (.int v), some (.int c5), some (.int c6), some (.int c7), some (.ref b)], [.ref b], M4_, 16462, 101864) l_L_law_1378 rfl ?_
  refine lr _ (1382, [some (.ref 1000000), some (.ref b1), some (.ref b2), some (.int x3), some (.int v), some (.int c5), some (.int c6), some (.int c7), some (.ref b)], [.int 20, .ref b], M4_, 16462, 101864) l_L_law_1380 rfl ?_
  refine lr _ (1384, [some (.ref 1000000), some (.ref b1), some (.ref b2), some (.int x3), some (.int v), some (.int c5), some (.int c6), some (.int c7), some (.ref b)], [.int c7, .int 20, .ref b], M4_, 16462, 101864) l_L_law_1382 rfl ?_
  refine lr _ (1385, [some (.ref 1000000), some (.ref b1), some (.ref b2), some (.int x3), some (.int v), some (.int c5), some (.int c6), some (.int c7), some (.ref b)], [.int (20 - c7), .ref b], M4_, 16462, 101864) l_L_law_1384 rfl ?_
  refine lc_call [20 - c7] h8 A4_ (by omega) l_L_law_1385 rfl rfl g_X11_pass (by decide) (by decide) (by decide) rfl rfl (fun R9 h9 => Or.inl ⟨_, _, rfl, h9⟩) (of_v_nr _) (fun M5_ A5_ F5_ => ?_)
  show mw_Wp sc mw_Good d_L_law 400 (1388, [some (.ref 1000000), some (.ref b1), some (.ref b2), some (.int x3), some (.int v), some (.int c5), some (.int c6), some (.int c7), some (.ref b)], [.int (Int32.ofInt v4)], M5_, 16458, 101840) Qr Qx
  have A5_k0 := A4_k0.oth F5_ (Or.inl hd)
  have hn5 : ∀ x, 1000000 ≤ x → M5_.2.2.2.2.1 x = none := fun x a => F5_.2.2 x a (hn4 x a)
  refine lbF _ (¬ (Int32.ofInt v4) = 0) (1436, [some (.ref 1000000), some (.ref b1), some (.ref b2), some (.int x3), some (.int v), some (.int c5), some (.int c6), some (.int c7), some (.ref b)], [], M5_, 16458, 101840) (1391, [some (.ref 1000000), some (.ref b1), some (.ref b2), some (.int x3), some (.int v), some (.int c5), some (.int c6), some (.int c7), some (.ref b)], [], M5_, 16458, 101840) l_L_law_1388 rfl h9 ?_
  refine lr _ (1393, [some (.ref 1000000), some (.ref b1), some (.ref b2), some (.int x3), some (.int v), some (.int c5), some (.int c6), some (.int c7), some (.ref b)], [.ref b], M5_, 16458, 101840) l_L_law_1391 rfl ?_
  refine lr _ (1394, [some (.ref 1000000), some (.ref b1), some (.ref b2), some (.int x3), some (.int v), some (.int c5), some (.int c6), some (.int c7), some (.ref b)], [.int 1, .ref b], M5_, 16458, 101840) l_L_law_1393 rfl ?_
  refine lc_call [1] h10 A5_ (by omega) l_L_law_1394 rfl rfl g_X11_phaseOf (by decide) (by decide) (by decide) rfl rfl (fun R9 h9 => Or.inl ⟨_, _, rfl, h9⟩) (of_v_nr _) (fun M6_ A6_ F6_ => ?_)
  show mw_Wp sc mw_Good d_L_law 400 (1397, [some (.ref 1000000), some (.ref b1), some (.ref b2), some (.int x3), some (.int v), some (.int c5), some (.int c6), some (.int c7), some (.ref b)], [.int (Int32.ofInt v5)], M6_, 16454, 101816) Qr Qx
  have A6_k0 := A5_k0.oth F6_ (Or.inl hd)
  have hn6 : ∀ x, 1000000 ≤ x → M6_.2.2.2.2.1 x = none := fun x a => F6_.2.2 x a (hn5 x a)
  refine lr _ (1398, [some (.ref 1000000), some (.ref b1), some (.ref b2), some (.int x3), some (.int v), some (.int c5), some (.int c6), some (.int c7), some (.ref b)], [.int 3, .int (Int32.ofInt v5)], M6_, 16454, 101816) l_L_law_1397 rfl ?_
  refine lbF _ (¬ (Int32.ofInt v5) = 3) (1436, [some (.ref 1000000), some (.ref b1), some (.ref b2), some (.int x3), some (.int v), some (.int c5), some (.int c6), some (.int c7), some (.ref b)], [], M6_, 16454, 101816) (1401, [some (.ref 1000000), some (.ref b1), some (.ref b2), some (.int x3), some (.int v), some (.int c5), some (.int c6), some (.int c7), some (.ref b)], [], M6_, 16454, 101816) l_L_law_1398 rfl h11 ?_
  refine lr _ (1403, [some (.ref 1000000), some (.ref b1), some (.ref b2), some (.int x3), some (.int v), some (.int c5), some (.int c6), some (.int c7), some (.ref b)], [.ref b], M6_, 16454, 101816) l_L_law_1401 rfl ?_
  refine lr _ (1404, [some (.ref 1000000), some (.ref b1), some (.ref b2), some (.int x3), some (.int v), some (.int c5), some (.int c6), some (.int c7), some (.ref b)], [.int 2, .ref b], M6_, 16454, 101816) l_L_law_1403 rfl ?_
  refine lc_call [2] h12 A6_ (by omega) l_L_law_1404 rfl rfl g_X11_phaseOf (by decide) (by decide) (by decide) rfl rfl (fun R9 h9 => Or.inl ⟨_, _, rfl, h9⟩) (of_v_nr _) (fun M7_ A7_ F7_ => ?_)
  show mw_Wp sc mw_Good d_L_law 400 (1407, [some (.ref 1000000), some (.ref b1), some (.ref b2), some (.int x3), some (.int v), some (.int c5), some (.int c6), some (.int c7), some (.ref b)], [.int (Int32.ofInt v6)], M7_, 16450, 101792) Qr Qx
  have A7_k0 := A6_k0.oth F7_ (Or.inl hd)
  have hn7 : ∀ x, 1000000 ≤ x → M7_.2.2.2.2.1 x = none := fun x a => F7_.2.2 x a (hn6 x a)
  refine lr _ (1408, [some (.ref 1000000), some (.ref b1), some (.ref b2), some (.int x3), some (.int v), some (.int c5), some (.int c6), some (.int c7), some (.ref b)], [.int 2, .int (Int32.ofInt v6)], M7_, 16450, 101792) l_L_law_1407 rfl ?_
  refine lbF _ (¬ (Int32.ofInt v6) = 2) (1436, [some (.ref 1000000), some (.ref b1), some (.ref b2), some (.int x3), some (.int v), some (.int c5), some (.int c6), some (.int c7), some (.ref b)], [], M7_, 16450, 101792) (1411, [some (.ref 1000000), some (.ref b1), some (.ref b2), some (.int x3), some (.int v), some (.int c5), some (.int c6), some (.int c7), some (.ref b)], [], M7_, 16450, 101792) l_L_law_1408 rfl h13 ?_
  refine lr _ (1413, [some (.ref 1000000), some (.ref b1), some (.ref b2), some (.int x3), some (.int v), some (.int c5), some (.int c6), some (.int c7), some (.ref b)], [.ref b], M7_, 16450, 101792) l_L_law_1411 rfl ?_
  refine lc_call [] h14 A7_ (by omega) l_L_law_1413 rfl rfl g_X11_strandingCount (by decide) (by decide) (by decide) rfl rfl (fun R9 h9 => Or.inl ⟨_, _, rfl, h9⟩) (of_v_nr _) (fun M8_ A8_ F8_ => ?_)
  show mw_Wp sc mw_Good d_L_law 400 (1416, [some (.ref 1000000), some (.ref b1), some (.ref b2), some (.int x3), some (.int v), some (.int c5), some (.int c6), some (.int c7), some (.ref b)], [.int (Int32.ofInt v7)], M8_, 16446, 101768) Qr Qx
  have A8_k0 := A7_k0.oth F8_ (Or.inl hd)
  have hn8 : ∀ x, 1000000 ≤ x → M8_.2.2.2.2.1 x = none := fun x a => F8_.2.2 x a (hn7 x a)
  refine lbF _ (¬ (Int32.ofInt v7) = 0) (1436, [some (.ref 1000000), some (.ref b1), some (.ref b2), some (.int x3), some (.int v), some (.int c5), some (.int c6), some (.int c7), some (.ref b)], [], M8_, 16446, 101768) (1419, [some (.ref 1000000), some (.ref b1), some (.ref b2), some (.int x3), some (.int v), some (.int c5), some (.int c6), some (.int c7), some (.ref b)], [], M8_, 16446, 101768) l_L_law_1416 rfl h15 ?_
  refine lr _ (1421, [some (.ref 1000000), some (.ref b1), some (.ref b2), some (.int x3), some (.int v), some (.int c5), some (.int c6), some (.int c7), some (.ref b)], [.ref b], M8_, 16446, 101768) l_L_law_1419 rfl ?_
  refine lc_call [] h16 A8_ (by omega) l_L_law_1421 rfl rfl g_X11_passageCount (by decide) (by decide) (by decide) rfl rfl (fun R9 h9 => Or.inl ⟨_, _, rfl, h9⟩) (of_v_nr _) (fun M9_ A9_ F9_ => ?_)
  show mw_Wp sc mw_Good d_L_law 400 (1424, [some (.ref 1000000), some (.ref b1), some (.ref b2), some (.int x3), some (.int v), some (.int c5), some (.int c6), some (.int c7), some (.ref b)], [.int (Int32.ofInt v8)], M9_, 16442, 101744) Qr Qx
  have A9_k0 := A8_k0.oth F9_ (Or.inl hd)
  have hn9 : ∀ x, 1000000 ≤ x → M9_.2.2.2.2.1 x = none := fun x a => F9_.2.2 x a (hn8 x a)
  refine lr _ (1425, [some (.ref 1000000), some (.ref b1), some (.ref b2), some (.int x3), some (.int v), some (.int c5), some (.int c6), some (.int c7), some (.ref b)], [.int 2, .int (Int32.ofInt v8)], M9_, 16442, 101744) l_L_law_1424 rfl ?_
  refine lbF _ (¬ (Int32.ofInt v8) = 2) (1436, [some (.ref 1000000), some (.ref b1), some (.ref b2), some (.int x3), some (.int v), some (.int c5), some (.int c6), some (.int c7), some (.ref b)], [], M9_, 16442, 101744) (1428, [some (.ref 1000000), some (.ref b1), some (.ref b2), some (.int x3), some (.int v), some (.int c5), some (.int c6), some (.int c7), some (.ref b)], [], M9_, 16442, 101744) l_L_law_1425 rfl h17 ?_
  refine lr _ (1430, [some (.ref 1000000), some (.ref b1), some (.ref b2), some (.int x3), some (.int v), some (.int c5), some (.int c6), some (.int c7), some (.ref b)], [.ref b], M9_, 16442, 101744) l_L_law_1428 rfl ?_
  refine lc_call [] h18 A9_ (by omega) l_L_law_1430 rfl rfl g_X11_isConsistent (by decide) (by decide) (by decide) rfl rfl (fun R9 h9 => Or.inl ⟨_, _, rfl, h9⟩) (of_v_nr _) (fun M10_ A10_ F10_ => ?_)
  show mw_Wp sc mw_Good d_L_law 400 (1433, [some (.ref 1000000), some (.ref b1), some (.ref b2), some (.int x3), some (.int v), some (.int c5), some (.int c6), some (.int c7), some (.ref b)], [.int (Int32.ofInt v9)], M10_, 16438, 101720) Qr Qx
  have A10_k0 := A9_k0.oth F10_ (Or.inl hd)
  have hn10 : ∀ x, 1000000 ≤ x → M10_.2.2.2.2.1 x = none := fun x a => F10_.2.2 x a (hn9 x a)
  refine lbT _ (¬ (Int32.ofInt v9) = 0) (1438, [some (.ref 1000000), some (.ref b1), some (.ref b2), some (.int x3), some (.int v), some (.int c5), some (.int c6), some (.int c7), some (.ref b)], [], M10_, 16438, 101720) (1436, [some (.ref 1000000), some (.ref b1), some (.ref b2), some (.int x3), some (.int v), some (.int c5), some (.int c6), some (.int c7), some (.ref b)], [], M10_, 16438, 101720) l_L_law_1433 rfl h19 ?_
  exact K _ (A10_.up (by omega) (by omega)) A10_k0 hn10
theorem w_20 {s1 : of_S} {b1 b2 b : Nat} {x3 v c5 c6 c7 : Int32} {B v1 : Int} {g0 : Int → Int} (O1 : Off b1 302 M w B) (hB : B ≤ 3900000) (hkn : ∀ x, 1000000 ≤ x → M.2.2.2.2.1 x = none) (hv : SV sc g0 v) (hr : of_call d_X11_restore [] w (.inr (some (.inl v1))) s1 0) (hg : s1.1.1 = g0) (h1 : ¬ (¬ Int32.ofInt v1 = x3))
    (K : ∀ M' : mw_Mem, (∀ x, 1000000 ≤ x → M'.2.2.2.2.1 x = none) → Qr (some (.int 1)) M') : mw_Wp sc mw_Good d_L_law 400 (1438, [some (.ref 1000000), some (.ref b1), some (.ref b2), some (.int x3), some (.int v), some (.int c5), some (.int c6), some (.int c7), some (.ref b)], [], M, 16438, 101720) Qr Qx := by
  refine lr _ (1439, [some (.ref 1000000), some (.ref b1), some (.ref b2), some (.int x3), some (.int v), some (.int c5), some (.int c6), some (.int c7), some (.ref b)], [.ref b1], M, 16438, 101720) l_L_law_1438 rfl ?_
  refine lc_call [] hr O1 (by omega) l_L_law_1439 rfl rfl g_X11_restore (by decide) (by decide) (by decide) rfl rfl (fun R9 h9 => Or.inl ⟨_, _, rfl, h9⟩) True.intro (fun M1_ A1_ F1_ => ?_)
  show mw_Wp sc mw_Good d_L_law 400 (1442, [some (.ref 1000000), some (.ref b1), some (.ref b2), some (.int x3), some (.int v), some (.int c5), some (.int c6), some (.int c7), some (.ref b)], [.int (Int32.ofInt v1)], M1_, 16434, 101696) Qr Qx
  have hn1 : ∀ x, 1000000 ≤ x → M1_.2.2.2.2.1 x = none := fun x a => F1_.2.2 x a (hkn x a)
  refine lr _ (1443, [some (.ref 1000000), some (.ref b1), some (.ref b2), some (.int x3), some (.int v), some (.int c5), some (.int c6), some (.int c7), some (.ref b)], [.int x3, .int (Int32.ofInt v1)], M1_, 16434, 101696) l_L_law_1442 rfl ?_
  refine lbF _ (¬ (Int32.ofInt v1) = x3) (1459, [some (.ref 1000000), some (.ref b1), some (.ref b2), some (.int x3), some (.int v), some (.int c5), some (.int c6), some (.int c7), some (.ref b)], [], M1_, 16434, 101696) (1446, [some (.ref 1000000), some (.ref b1), some (.ref b2), some (.int x3), some (.int v), some (.int c5), some (.int c6), some (.int c7), some (.ref b)], [], M1_, 16434, 101696) l_L_law_1443 rfl h1 ?_
  refine lr _ (1447, [some (.ref 1000000), some (.ref b1), some (.ref b2), some (.int x3), some (.int v), some (.int c5), some (.int c6), some (.int c7), some (.ref b)], [.ref b1], M1_, 16434, 101696) l_L_law_1446 rfl ?_
  refine mw_Wp.cal _ d_L_state 300 1000 6000 l_L_law_1447 rfl rfl g_L_state (by decide) (by decide) (by decide) True.intro ?_
  refine hv s1 b1 302 _ _ _ _ hg A1_ (by omega) hn1 (fun M2_ A2_ F2_ => ?_)
  show mw_Wp sc mw_Good d_L_law 400 (1450, [some (.ref 1000000), some (.ref b1), some (.ref b2), some (.int x3), some (.int v), some (.int c5), some (.int c6), some (.int c7), some (.ref b)], [.int v], M2_, 15434, 95696) Qr Qx
  have hn2 : ∀ x, 1000000 ≤ x → M2_.2.2.2.2.1 x = none := fun x a => F2_.2.2 x a (hn1 x a)
  refine lr _ (1452, [some (.ref 1000000), some (.ref b1), some (.ref b2), some (.int x3), some (.int v), some (.int c5), some (.int c6), some (.int c7), some (.ref b)], [.int v, .int v], M2_, 15434, 95696) l_L_law_1450 rfl ?_
  refine lbF _ (¬ v = v) (1459, [some (.ref 1000000), some (.ref b1), some (.ref b2), some (.int x3), some (.int v), some (.int c5), some (.int c6), some (.int c7), some (.ref b)], [], M2_, 15434, 95696) (1455, [some (.ref 1000000), some (.ref b1), some (.ref b2), some (.int x3), some (.int v), some (.int c5), some (.int c6), some (.int c7), some (.ref b)], [], M2_, 15434, 95696) l_L_law_1452 rfl (fun z => z rfl) ?_
  refine lr _ (1456, [some (.ref 1000000), some (.ref b1), some (.ref b2), some (.int x3), some (.int v), some (.int c5), some (.int c6), some (.int c7), some (.ref b)], [.int 1], M2_, 15434, 95696) l_L_law_1455 rfl ?_
  refine lr _ (1460, [some (.ref 1000000), some (.ref b1), some (.ref b2), some (.int x3), some (.int v), some (.int c5), some (.int c6), some (.int c7), some (.ref b)], [.int 1], M2_, 15434, 95696) l_L_law_1456 rfl ?_
  exact lt_retP _ _ (some (.int 1)) l_L_law_1460 rfl ⟨_, rfl, by decide⟩ (K _ hn2)
end
