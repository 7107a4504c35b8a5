/-! the law walked: arrivals, loads, a line -/
section
variable {sc : Nat × (Nat → Int32)} {M : mw_Mem} {Qr : Option Value → mw_Mem → Prop} {Qx : Nat → mw_Mem → Prop} {w : of_S}
theorem w_15 {s0 s1 s2 s3 s4 s5 s6 s7 : of_S} {b1 b2 b : Nat} {x3 v c5 c6 c7 : Int32} {v1 v2 v3 v4 v5 v6 v7 v8 v9 : Int} {B : Int} (O1 : Off b1 302 M w B) (O3 : Off b 302 M s0 10000) (hd : b1 + 303 ≤ b) (hkn : ∀ x, 1000000 ≤ x → M.2.2.2.2.1 x = none) 
    (h1 : of_call d_X11_earliestArrival ([(0 : Int32), 0].map (fun v => (.inl v.toInt : nw_V))) s0 (of_v (.inr v1)) s0 0)
    (h2 : ¬ (¬ (Int32.ofInt v1) = 0))
    (h3 : of_call d_X11_earliestArrival ([(0 : Int32), 1].map (fun v => (.inl v.toInt : nw_V))) s0 (of_v (.inr v2)) s0 0)
    (h4 : ¬ (¬ (Int32.ofInt v2) = (1 + c7)))
    (h5 : of_call d_X11_earliestArrivalByHours ([(0 : Int32), 1].map (fun v => (.inl v.toInt : nw_V))) s0 (of_v (.inr v3)) s0 0)
    (h6 : ¬ (¬ (Int32.ofInt v3) = (1 + c7)))
    (h7 : of_call d_X11_pass ([(1 : Int32)].map (fun v => (.inl v.toInt : nw_V))) s0 (of_v (.inr v4)) s1 200)
    (h8 : ¬ (¬ (Int32.ofInt v4) = 0))
    (h9 : of_call d_X11_isStranded ([(0 : Int32)].map (fun v => (.inl v.toInt : nw_V))) s1 (of_v (.inr v5)) s1 0)
    (h10 : ¬ (¬ (Int32.ofInt v5) = 0))
    (h11 : of_call d_X11_loadBest ([(0 : Int32)].map (fun v => (.inl v.toInt : nw_V))) s1 (of_v (.inr v6)) s2 200)
    (h12 : ¬ (¬ (Int32.ofInt v6) = 2))
    (h13 : of_call d_X11_loadOf ([(0 : Int32)].map (fun v => (.inl v.toInt : nw_V))) s2 (of_v (.inr v7)) s2 0)
    (h14 : ¬ (¬ (Int32.ofInt v7) = (c6 + 24)))
    (h15 : la sc d_L_act [3, 0, 2, 0] s2 (-4 : Int32) s3 200 22 4 24)
    (h16 : ¬ ((c6 + 54) ≤ 40))
    (h17 : of_call d_X11_refusalReason [] s3 (of_v (.inr v8)) s3 0)
    (h18 : ¬ (¬ (Int32.ofInt v8) = 6))
    (h19 : la sc d_L_act [3, 0, 1, 0] s3 (-3 : Int32) s4 200 22 4 24)
    (h20 : of_call d_X11_sail ([(0 : Int32), 1].map (fun v => (.inl v.toInt : nw_V))) s4 (of_v (.inr v9)) s5 200)
    (h21 : ¬ (¬ (Int32.ofInt v9) = (1 + c7)))
    (h22 : la sc d_L_act [4, 0, 0, 0] s5 (-4 : Int32) s6 200 22 4 24)
    (h23 : la sc d_L_act [8, 0, 0, 0] s6 (-3 : Int32) s7 200 22 4 24)
    (K : ∀ (M' : mw_Mem), Off b 302 M' s7 12000 → Off b1 302 M' w B → (∀ x, 1000000 ≤ x → M'.2.2.2.2.1 x = none) → mw_Wp sc mw_Good d_L_law 400 (1047, [some (.ref 1000000), some (.ref b1), some (.ref b2), some (.int x3), some (.int v), some (.int c5), some (.int c6), some (.int c7), some (.ref b)], [], M', 16988, 109396) Qr Qx) : mw_Wp sc mw_Good d_L_law 400 (872, [some (.ref 1000000), some (.ref b1), some (.ref b2), some (.int x3), some (.int v), some (.int c5), some (.int c6), some (.int c7), some (.ref b)], [], M, 17040, 109708) Qr Qx := by
  refine lr _ (874, [some (.ref 1000000), some (.ref b1), some (.ref b2), some (.int x3), some (.int v), some (.int c5), some (.int c6), some (.int c7), some (.ref b)], [.ref b], M, 17040, 109708) l_L_law_872 rfl ?_
  refine lr _ (875, [some (.ref 1000000), some (.ref b1), some (.ref b2), some (.int x3), some (.int v), some (.int c5), some (.int c6), some (.int c7), some (.ref b)], [.int 0, .ref b], M, 17040, 109708) l_L_law_874 rfl ?_
  refine lr _ (876, [some (.ref 1000000), some (.ref b1), some (.ref b2), some (.int x3), some (.int v), some (.int c5), some (.int c6), some (.int c7), some (.ref b)], [.int 0, .int 0, .ref b], M, 17040, 109708) l_L_law_875 rfl ?_
  refine lc_call [0, 0] h1 O3 (by omega) l_L_law_876 rfl rfl g_X11_earliestArrival (by decide) (by decide) (by decide) rfl rfl (fun R9 h9 => Or.inl ⟨_, _, rfl, h9⟩) (of_v_nr _) (fun M1_ A1_ F1_ => ?_)
  show mw_Wp sc mw_Good d_L_law 400 (879, [some (.ref 1000000), some (.ref b1), some (.ref b2), some (.int x3), some (.int v), some (.int c5), some (.int c6), some (.int c7), some (.ref b)], [.int (Int32.ofInt v1)], M1_, 17036, 109684) Qr Qx
  have A1_k0 := O1.oth F1_ (Or.inl hd)
  have hn1 : ∀ x, 1000000 ≤ x → M1_.2.2.2.2.1 x = none := fun x a => F1_.2.2 x a (hkn x a)
  refine lbF _ (¬ (Int32.ofInt v1) = 0) (1103, [some (.ref 1000000), some (.ref b1), some (.ref b2), some (.int x3), some (.int v), some (.int c5), some (.int c6), some (.int c7), some (.ref b)], [], M1_, 17036, 109684) (882, [some (.ref 1000000), some (.ref b1), some (.ref b2), some (.int x3), some (.int v), some (.int c5), some (.int c6), some (.int c7), some (.ref b)], [], M1_, 17036, 109684) l_L_law_879 rfl h2 ?_
  refine lr _ (884, [some (.ref 1000000), some (.ref b1), some (.ref b2), some (.int x3), some (.int v), some (.int c5), some (.int c6), some (.int c7), some (.ref b)], [.ref b], M1_, 17036, 109684) l_L_law_882 rfl ?_
  refine lr _ (885, [some (.ref 1000000), some (.ref b1), some (.ref b2), some (.int x3), some (.int v), some (.int c5), some (.int c6), some (.int c7), some (.ref b)], [.int 0, .ref b], M1_, 17036, 109684) l_L_law_884 rfl ?_
  refine lr _ (886, [some (.ref 1000000), some (.ref b1), some (.ref b2), some (.int x3), some (.int v), some (.int c5), some (.int c6), some (.int c7), some (.ref b)], [.int 1, .int 0, .ref b], M1_, 17036, 109684) l_L_law_885 rfl ?_
  refine lc_call [0, 1] h3 A1_ (by omega) l_L_law_886 rfl rfl g_X11_earliestArrival (by decide) (by decide) (by decide) rfl rfl (fun R9 h9 => Or.inl ⟨_, _, rfl, h9⟩) (of_v_nr _) (fun M2_ A2_ F2_ => ?_)
  show mw_Wp sc mw_Good d_L_law 400 (889, [some (.ref 1000000), some (.ref b1), some (.ref b2), some (.int x3), some (.int v), some (.int c5), some (.int c6), some (.int c7), some (.ref b)], [.int (Int32.ofInt v2)], M2_, 17032, 109660) Qr Qx
  have A2_k0 := A1_k0.oth F2_ (Or.inl hd)
  have hn2 : ∀ x, 1000000 ≤ x → M2_.2.2.2.2.1 x = none := fun x a => F2_.2.2 x a (hn1 x a)
  refine lr _ (890, [some (.ref 1000000), some (.ref b1), some (.ref b2), some (.int x3), some (.int v), some (.int c5), some (.int c6), some (.int c7), some (.ref b)], [.int 1, .int (Int32.ofInt v2)], M2_, 17032, 109660) l_L_law_889 rfl ?_
  refine lr _ (892, [some (.ref 1000000), some (.ref b1), some (.ref b2), some (.int x3), some (.int v), some (.int c5), some (.int c6), some (.int c7), some (.ref b)], [.int c7, .int 1, .int (Int32.ofInt v2)], M2_, 17032, 109660) l_L_law_890 rfl ?_
  refine lr _ (893, [some (.ref 1000000), some (.ref b1), some (.ref b2), some (.int x3), some (.int v), some (.int c5), some (.int c6), some (.int c7), some (.ref b)], [.int (1 + c7), .int (Int32.ofInt v2)], M2_, 17032, 109660) l_L_law_892 rfl ?_
  refine lbF _ (¬ (Int32.ofInt v2) = (1 + c7)) (1103, [some (.ref 1000000), some (.ref b1), some (.ref b2), some (.int x3), some (.int v), some (.int c5), some (.int c6), some (.int c7), some (.ref b)], [], M2_, 17032, 109660) (896, [some (.ref 1000000), some (.ref b1), some (.ref b2), some (.int x3), some (.int v), some (.int c5), some (.int c6), some (.int c7), some (.ref b)], [], M2_, 17032, 109660) l_L_law_893 rfl h4 ?_
  refine lr _ (898, [some (.ref 1000000), some (.ref b1), some (.ref b2), some (.int x3), some (.int v), some (.int c5), some (.int c6), some (.int c7), some (.ref b)], [.ref b], M2_, 17032, 109660) l_L_law_896 rfl ?_
  refine lr _ (899, [some (.ref 1000000), some (.ref b1), some (.ref b2), some (.int x3), some (.int v), some (.int c5), some (.int c6), some (.int c7), some (.ref b)], [.int 0, .ref b], M2_, 17032, 109660) l_L_law_898 rfl ?_
  refine lr _ (900, [some (.ref 1000000), some (.ref b1), some (.ref b2), some (.int x3), some (.int v), some (.int c5), some (.int c6), some (.int c7), some (.ref b)], [.int 1, .int 0, .ref b], M2_, 17032, 109660) l_L_law_899 rfl ?_
  refine lc_call [0, 1] h5 A2_ (by omega) l_L_law_900 rfl rfl g_X11_earliestArrivalByHours (by decide) (by decide) (by decide) rfl rfl (fun R9 h9 => Or.inl ⟨_, _, rfl, h9⟩) (of_v_nr _) (fun M3_ A3_ F3_ => ?_)
  show mw_Wp sc mw_Good d_L_law 400 (903, [some (.ref 1000000), some (.ref b1), some (.ref b2), some (.int x3), some (.int v), some (.int c5), some (.int c6), some (.int c7), some (.ref b)], [.int (Int32.ofInt v3)], M3_, 17028, 109636) Qr Qx
  have A3_k0 := A2_k0.oth F3_ (Or.inl hd)
  have hn3 : ∀ x, 1000000 ≤ x → M3_.2.2.2.2.1 x = none := fun x a => F3_.2.2 x a (hn2 x a)
  refine lr _ (904, [some (.ref 1000000), some (.ref b1), some (.ref b2), some (.int x3), some (.int v), some (.int c5), some (.int c6), some (.int c7), some (.ref b)], [.int 1, .int (Int32.ofInt v3)], M3_, 17028, 109636) l_L_law_903 rfl ?_
  refine lr _ (906, [some (.ref 1000000), some (.ref b1), some (.ref b2), some (.int x3), some (.int v), some (.int c5), some (.int c6), some (.int c7), some (.ref b)], [.int c7, .int 1, .int (Int32.ofInt v3)], M3_, 17028, 109636) l_L_law_904 rfl ?_
  refine lr _ (907, [some (.ref 1000000), some (.ref b1), some (.ref b2), some (.int x3), some (.int v), some (.int c5), some (.int c6), some (.int c7), some (.ref b)], [.int (1 + c7), .int (Int32.ofInt v3)], M3_, 17028, 109636) l_L_law_906 rfl ?_
  refine lbF _ (¬ (Int32.ofInt v3) = (1 + c7)) (1103, [some (.ref 1000000), some (.ref b1), some (.ref b2), some (.int x3), some (.int v), some (.int c5), some (.int c6), some (.int c7), some (.ref b)], [], M3_, 17028, 109636) (910, [some (.ref 1000000), some (.ref b1), some (.ref b2), some (.int x3), some (.int v), some (.int c5), some (.int c6), some (.int c7), some (.ref b)], [], M3_, 17028, 109636) l_L_law_907 rfl h6 ?_
  refine lr _ (912, [some (.ref 1000000), some (.ref b1), some (.ref b2), some (.int x3), some (.int v), some (.int c5), some (.int c6), some (.int c7), some (.ref b)], [.ref b], M3_, 17028, 109636) l_L_law_910 rfl ?_
  refine lr _ (913, [some (.ref 1000000), some (.ref b1), some (.ref b2), some (.int x3), some (.int v), some (.int c5), some (.int c6), some (.int c7), some (.ref b)], [.int 1, .ref b], M3_, 17028, 109636) l_L_law_912 rfl ?_
  refine lc_call [1] h7 A3_ (by omega) l_L_law_913 rfl rfl g_X11_pass (by decide) (by decide) (by decide) rfl rfl (fun R9 h9 => Or.inl ⟨_, _, rfl, h9⟩) (of_v_nr _) (fun M4_ A4_ F4_ => ?_)
  show mw_Wp sc mw_Good d_L_law 400 (916, [some (.ref 1000000), some (.ref b1), some (.ref b2), some (.int x3), some (.int v), some (.int c5), some (.int c6), some (.int c7), some (.ref b)], [.int (Int32.ofInt v4)], M4_, 17024, 109612) Qr Qx
  have A4_k0 := A3_k0.oth F4_ (Or.inl hd)
  have hn4 : ∀ x, 1000000 ≤ x → M4_.2.2.2.2.1 x = none := fun x a => F4_.2.2 x a (hn3 x a)
  refine lbF _ (¬ (Int32.ofInt v4) = 0) (1103, [some (.ref 1000000), some (.ref b1), some (.ref b2), some (.int x3), some (.int v), some (.int c5), some (.int c6), some (.int c7), some (.ref b)], [], M4_, 17024, 109612) (919, [some (.ref 1000000), some (.ref b1), some (.ref b2), some (.int x3), some (.int v), some (.int c5), some (.int c6), some (.int c7), some (.ref b)], [], M4_, 17024, 109612) l_L_law_916 rfl h8 ?_
  refine lr _ (921, [some (.ref 1000000), some (.ref b1), some (.ref b2), some (.int x3), some (.int v), some (.int c5), some (.int c6), some (.int c7), some (.ref b)], [.ref b], M4_, 17024, 109612) l_L_law_919 rfl ?_
  refine lr _ (922, [some (.ref 1000000), some (.ref b1), some (.ref b2), some (.int x3), some (.int v), some (.int c5), some (.int c6), some (.int c7), some (.ref b)], [.int 0, .ref b], M4_, 17024, 109612) l_L_law_921 rfl ?_
  refine lc_call [0] h9 A4_ (by omega) l_L_law_922 rfl rfl g_X11_isStranded (by decide) (by decide) (by decide) rfl rfl (fun R9 h9 => Or.inl ⟨_, _, rfl, h9⟩) (of_v_nr _) (fun M5_ A5_ F5_ => ?_)
  show mw_Wp sc mw_Good d_L_law 400 (925, [some (.ref 1000000), some (.ref b1), some (.ref b2), some (.int x3), some (.int v), some (.int c5), some (.int c6), some (.int c7), some (.ref b)], [.int (Int32.ofInt v5)], M5_, 17020, 109588) Qr Qx
  have A5_k0 := A4_k0.oth F5_ (Or.inl hd)
  have hn5 : ∀ x, 1000000 ≤ x → M5_.2.2.2.2.1 x = none := fun x a => F5_.2.2 x a (hn4 x a)
  refine lbF _ (¬ (Int32.ofInt v5) = 0) (1103, [some (.ref 1000000), some (.ref b1), some (.ref b2), some (.int x3), some (.int v), some (.int c5), some (.int c6), some (.int c7), some (.ref b)], [], M5_, 17020, 109588) (928, [some (.ref 1000000), some (.ref b1), some (.ref b2), some (.int x3), some (.int v), some (.int c5), some (.int c6), some (.int c7), some (.ref b)], [], M5_, 17020, 109588) l_L_law_925 rfl h10 ?_
  refine lr _ (930, [some (.ref 1000000), some (.ref b1), some (.ref b2), some (.int x3), some (.int v), some (.int c5), some (.int c6), some (.int c7), some (.ref b)], [.ref b], M5_, 17020, 109588) l_L_law_928 rfl ?_
  refine lr _ (931, [some (.ref 1000000), some (.ref b1), some (.ref b2), some (.int x3), some (.int v), some (.int c5), some (.int c6), some (.int c7), some (.ref b)], [.int 0, .ref b], M5_, 17020, 109588) l_L_law_930 rfl ?_
  refine lc_call [0] h11 A5_ (by omega) l_L_law_931 rfl rfl g_X11_loadBest (by decide) (by decide) (by decide) rfl rfl (fun R9 h9 => Or.inl ⟨_, _, rfl, h9⟩) (of_v_nr _) (fun M6_ A6_ F6_ => ?_)
  show mw_Wp sc mw_Good d_L_law 400 (934, [some (.ref 1000000), some (.ref b1), some (.ref b2), some (.int x3), some (.int v), some (.int c5), some (.int c6), some (.int c7), some (.ref b)], [.int (Int32.ofInt v6)], M6_, 17016, 109564) Qr Qx
  have A6_k0 := A5_k0.oth F6_ (Or.inl hd)
  have hn6 : ∀ x, 1000000 ≤ x → M6_.2.2.2.2.1 x = none := fun x a => F6_.2.2 x a (hn5 x a)
  refine lr _ (935, [some (.ref 1000000), some (.ref b1), some (.ref b2), some (.int x3), some (.int v), some (.int c5), some (.int c6), some (.int c7), some (.ref b)], [.int 2, .int (Int32.ofInt v6)], M6_, 17016, 109564) l_L_law_934 rfl ?_
  refine lbF _ (¬ (Int32.ofInt v6) = 2) (1103, [some (.ref 1000000), some (.ref b1), some (.ref b2), some (.int x3), some (.int v), some (.int c5), some (.int c6), some (.int c7), some (.ref b)], [], M6_, 17016, 109564) (938, [some (.ref 1000000), some (.ref b1), some (.ref b2), some (.int x3), some (.int v), some (.int c5), some (.int c6), some (.int c7), some (.ref b)], [], M6_, 17016, 109564) l_L_law_935 rfl h12 ?_
  refine lr _ (940, [some (.ref 1000000), some (.ref b1), some (.ref b2), some (.int x3), some (.int v), some (.int c5), some (.int c6), some (.int c7), some (.ref b)], [.ref b], M6_, 17016, 109564) l_L_law_938 rfl ?_
  refine lr _ (941, [some (.ref 1000000), some (.ref b1), some (.ref b2), some (.int x3), some (.int v), some (.int c5), some (.int c6), some (.int c7), some (.ref b)], [.int 0, .ref b], M6_, 17016, 109564) l_L_law_940 rfl ?_
  refine lc_call [0] h13 A6_ (by omega) l_L_law_941 rfl rfl g_X11_loadOf (by decide) (by decide) (by decide) rfl rfl (fun R9 h9 => Or.inl ⟨_, _, rfl, h9⟩) (of_v_nr _) (fun M7_ A7_ F7_ => ?_)
  show mw_Wp sc mw_Good d_L_law 400 (944, [some (.ref 1000000), some (.ref b1), some (.ref b2), some (.int x3), some (.int v), some (.int c5), some (.int c6), some (.int c7), some (.ref b)], [.int (Int32.ofInt v7)], M7_, 17012, 109540) Qr Qx
  have A7_k0 := A6_k0.oth F7_ (Or.inl hd)
  have hn7 : ∀ x, 1000000 ≤ x → M7_.2.2.2.2.1 x = none := fun x a => F7_.2.2 x a (hn6 x a)
  refine lr _ (946, [some (.ref 1000000), some (.ref b1), some (.ref b2), some (.int x3), some (.int v), some (.int c5), some (.int c6), some (.int c7), some (.ref b)], [.int c6, .int (Int32.ofInt v7)], M7_, 17012, 109540) l_L_law_944 rfl ?_
  refine lr _ (948, [some (.ref 1000000), some (.ref b1), some (.ref b2), some (.int x3), some (.int v), some (.int c5), some (.int c6), some (.int c7), some (.ref b)], [.int 24, .int c6, .int (Int32.ofInt v7)], M7_, 17012, 109540) l_L_law_946 rfl ?_
  refine lr _ (949, [some (.ref 1000000), some (.ref b1), some (.ref b2), some (.int x3), some (.int v), some (.int c5), some (.int c6), some (.int c7), some (.ref b)], [.int (c6 + 24), .int (Int32.ofInt v7)], M7_, 17012, 109540) l_L_law_948 rfl ?_
  refine lbF _ (¬ (Int32.ofInt v7) = (c6 + 24)) (1103, [some (.ref 1000000), some (.ref b1), some (.ref b2), some (.int x3), some (.int v), some (.int c5), some (.int c6), some (.int c7), some (.ref b)], [], M7_, 17012, 109540) (952, [some (.ref 1000000), some (.ref b1), some (.ref b2), some (.int x3), some (.int v), some (.int c5), some (.int c6), some (.int c7), some (.ref b)], [], M7_, 17012, 109540) l_L_law_949 rfl h14 ?_
  refine lr _ (954, [some (.ref 1000000), some (.ref b1), some (.ref b2), some (.int x3), some (.int v), some (.int c5), some (.int c6), some (.int c7), some (.ref b)], [.ref b], M7_, 17012, 109540) l_L_law_952 rfl ?_
  refine lr _ (955, [some (.ref 1000000), some (.ref b1), some (.ref b2), some (.int x3), some (.int v), some (.int c5), some (.int c6), some (.int c7), some (.ref b)], [.int 3, .ref b], M7_, 17012, 109540) l_L_law_954 rfl ?_
  refine lr _ (956, [some (.ref 1000000), some (.ref b1), some (.ref b2), some (.int x3), some (.int v), some (.int c5), some (.int c6), some (.int c7), some (.ref b)], [.int 0, .int 3, .ref b], M7_, 17012, 109540) l_L_law_955 rfl ?_
  refine lr _ (957, [some (.ref 1000000), some (.ref b1), some (.ref b2), some (.int x3), some (.int v), some (.int c5), some (.int c6), some (.int c7), some (.ref b)], [.int 2, .int 0, .int 3, .ref b], M7_, 17012, 109540) l_L_law_956 rfl ?_
  refine lr _ (958, [some (.ref 1000000), some (.ref b1), some (.ref b2), some (.int x3), some (.int v), some (.int c5), some (.int c6), some (.int c7), some (.ref b)], [.int 0, .int 2, .int 0, .int 3, .ref b], M7_, 17012, 109540) l_L_law_957 rfl ?_
  refine lc_own [3, 0, 2, 0] _ h15 A7_ (by omega) l_L_law_958 rfl rfl g_L_act (by decide) (by decide) (by decide) True.intro rfl rfl (fun M8_ A8_ F8_ => ?_)
  show mw_Wp sc mw_Good d_L_law 400 (961, [some (.ref 1000000), some (.ref b1), some (.ref b2), some (.int x3), some (.int v), some (.int c5), some (.int c6), some (.int c7), some (.ref b)], [.int (-4 : Int32)], M8_, 17008, 109516) Qr Qx
  have A8_k0 := A7_k0.oth F8_ (Or.inl hd)
  have hn8 : ∀ x, 1000000 ≤ x → M8_.2.2.2.2.1 x = none := fun x a => F8_.2.2 x a (hn7 x a)
  refine lr _ (963, [some (.ref 1000000), some (.ref b1), some (.ref b2), some (.int x3), some (.int v), some (.int c5), some (.int c6), some (.int c7), some (.ref b)], [.int c6, .int (-4 : Int32)], M8_, 17008, 109516) l_L_law_961 rfl ?_
  refine lr _ (965, [some (.ref 1000000), some (.ref b1), some (.ref b2), some (.int x3), some (.int v), some (.int c5), some (.int c6), some (.int c7), some (.ref b)], [.int 54, .int c6, .int (-4 : Int32)], M8_, 17008, 109516) l_L_law_963 rfl ?_
  refine lr _ (966, [some (.ref 1000000), some (.ref b1), some (.ref b2), some (.int x3), some (.int v), some (.int c5), some (.int c6), some (.int c7), some (.ref b)], [.int (c6 + 54), .int (-4 : Int32)], M8_, 17008, 109516) l_L_law_965 rfl ?_
  refine lr _ (968, [some (.ref 1000000), some (.ref b1), some (.ref b2), some (.int x3), some (.int v), some (.int c5), some (.int c6), some (.int c7), some (.ref b)], [.int 40, .int (c6 + 54), .int (-4 : Int32)], M8_, 17008, 109516) l_L_law_966 rfl ?_
  refine lbF _ ((c6 + 54) ≤ 40) (976, [some (.ref 1000000), some (.ref b1), some (.ref b2), some (.int x3), some (.int v), some (.int c5), some (.int c6), some (.int c7), some (.ref b)], [.int (-4 : Int32)], M8_, 17008, 109516) (971, [some (.ref 1000000), some (.ref b1), some (.ref b2), some (.int x3), some (.int v), some (.int c5), some (.int c6), some (.int c7), some (.ref b)], [.int (-4 : Int32)], M8_, 17008, 109516) l_L_law_968 rfl h16 ?_
  refine lr _ (973, [some (.ref 1000000), some (.ref b1), some (.ref b2), some (.int x3), some (.int v), some (.int c5), some (.int c6), some (.int c7), some (.ref b)], [.int (-4), .int (-4 : Int32)], M8_, 17008, 109516) l_L_law_971 rfl ?_
  refine lr _ (977, [some (.ref 1000000), some (.ref b1), some (.ref b2), some (.int x3), some (.int v), some (.int c5), some (.int c6), some (.int c7), some (.ref b)], [.int (-4), .int (-4 : Int32)], M8_, 17008, 109516) l_L_law_973 rfl ?_
  refine lbF _ (¬ (-4 : Int32) = (-4)) (1103, [some (.ref 1000000), some (.ref b1), some (.ref b2), some (.int x3), some (.int v), some (.int c5), some (.int c6), some (.int c7), some (.ref b)], [], M8_, 17008, 109516) (980, [some (.ref 1000000), some (.ref b1), some (.ref b2), some (.int x3), some (.int v), some (.int c5), some (.int c6), some (.int c7), some (.ref b)], [], M8_, 17008, 109516) l_L_law_977 rfl (by decide) ?_
  refine lr _ (982, [some (.ref 1000000), some (.ref b1), some (.ref b2), some (.int x3), some (.int v), some (.int c5), some (.int c6), some (.int c7), some (.ref b)], [.ref b], M8_, 17008, 109516) l_L_law_980 rfl ?_
  refine lc_call [] h17 A8_ (by omega) l_L_law_982 rfl rfl g_X11_refusalReason (by decide) (by decide) (by decide) rfl rfl (fun R9 h9 => Or.inl ⟨_, _, rfl, h9⟩) (of_v_nr _) (fun M9_ A9_ F9_ => ?_)
  show mw_Wp sc mw_Good d_L_law 400 (985, [some (.ref 1000000), some (.ref b1), some (.ref b2), some (.int x3), some (.int v), some (.int c5), some (.int c6), some (.int c7), some (.ref b)], [.int (Int32.ofInt v8)], M9_, 17004, 109492) Qr Qx
  have A9_k0 := A8_k0.oth F9_ (Or.inl hd)
  have hn9 : ∀ x, 1000000 ≤ x → M9_.2.2.2.2.1 x = none := fun x a => F9_.2.2 x a (hn8 x a)
  refine lr _ (987, [some (.ref 1000000), some (.ref b1), some (.ref b2), some (.int x3), some (.int v), some (.int c5), some (.int c6), some (.int c7), some (.ref b)], [.int 6, .int (Int32.ofInt v8)], M9_, 17004, 109492) l_L_law_985 rfl ?_
  refine lbF _ (¬ (Int32.ofInt v8) = 6) (1103, [some (.ref 1000000), some (.ref b1), some (.ref b2), some (.int x3), some (.int v), some (.int c5), some (.int c6), some (.int c7), some (.ref b)], [], M9_, 17004, 109492) (990, [some (.ref 1000000), some (.ref b1), some (.ref b2), some (.int x3), some (.int v), some (.int c5), some (.int c6), some (.int c7), some (.ref b)], [], M9_, 17004, 109492) l_L_law_987 rfl h18 ?_
  refine lr _ (992, [some (.ref 1000000), some (.ref b1), some (.ref b2), some (.int x3), some (.int v), some (.int c5), some (.int c6), some (.int c7), some (.ref b)], [.ref b], M9_, 17004, 109492) l_L_law_990 rfl ?_
  refine lr _ (993, [some (.ref 1000000), some (.ref b1), some (.ref b2), some (.int x3), some (.int v), some (.int c5), some (.int c6), some (.int c7), some (.ref b)], [.int 3, .ref b], M9_, 17004, 109492) l_L_law_992 rfl ?_
  refine lr _ (994, [some (.ref 1000000), some (.ref b1), some (.ref b2), some (.int x3), some (.int v), some (.int c5), some (.int c6), some (.int c7), some (.ref b)], [.int 0, .int 3, .ref b], M9_, 17004, 109492) l_L_law_993 rfl ?_
  refine lr _ (995, [some (.ref 1000000), some (.ref b1), some (.ref b2), some (.int x3), some (.int v), some (.int c5), some (.int c6), some (.int c7), some (.ref b)], [.int 1, .int 0, .int 3, .ref b], M9_, 17004, 109492) l_L_law_994 rfl ?_
  refine lr _ (996, [some (.ref 1000000), some (.ref b1), some (.ref b2), some (.int x3), some (.int v), some (.int c5), some (.int c6), some (.int c7), some (.ref b)], [.int 0, .int 1, .int 0, .int 3, .ref b], M9_, 17004, 109492) l_L_law_995 rfl ?_
  refine lc_own [3, 0, 1, 0] _ h19 A9_ (by omega) l_L_law_996 rfl rfl g_L_act (by decide) (by decide) (by decide) True.intro rfl rfl (fun M10_ A10_ F10_ => ?_)
  show mw_Wp sc mw_Good d_L_law 400 (999, [some (.ref 1000000), some (.ref b1), some (.ref b2), some (.int x3), some (.int v), some (.int c5), some (.int c6), some (.int c7), some (.ref b)], [.int (-3 : Int32)], M10_, 17000, 109468) Qr Qx
  have A10_k0 := A9_k0.oth F10_ (Or.inl hd)
  have hn10 : ∀ x, 1000000 ≤ x → M10_.2.2.2.2.1 x = none := fun x a => F10_.2.2 x a (hn9 x a)
  refine lr _ (1001, [some (.ref 1000000), some (.ref b1), some (.ref b2), some (.int x3), some (.int v), some (.int c5), some (.int c6), some (.int c7), some (.ref b)], [.int (-3), .int (-3 : Int32)], M10_, 17000, 109468) l_L_law_999 rfl ?_
  refine lbF _ (¬ (-3 : Int32) = (-3)) (1103, [some (.ref 1000000), some (.ref b1), some (.ref b2), some (.int x3), some (.int v), some (.int c5), some (.int c6), some (.int c7), some (.ref b)], [], M10_, 17000, 109468) (1004, [some (.ref 1000000), some (.ref b1), some (.ref b2), some (.int x3), some (.int v), some (.int c5), some (.int c6), some (.int c7), some (.ref b)], [], M10_, 17000, 109468) l_L_law_1001 rfl (by decide) ?_
  refine lr _ (1006, [some (.ref 1000000), some (.ref b1), some (.ref b2), some (.int x3), some (.int v), some (.int c5), some (.int c6), some (.int c7), some (.ref b)], [.ref b], M10_, 17000, 109468) l_L_law_1004 rfl ?_
  refine lr _ (1007, [some (.ref 1000000), some (.ref b1), some (.ref b2), some (.int x3), some (.int v), some (.int c5), some (.int c6), some (.int c7), some (.ref b)], [.int 0, .ref b], M10_, 17000, 109468) l_L_law_1006 rfl ?_
  refine lr _ (1008, [some (.ref 1000000), some (.ref b1), some (.ref b2), some (.int x3), some (.int v), some (.int c5), some (.int c6), some (.int c7), some (.ref b)], [.int 1, .int 0, .ref b], M10_, 17000, 109468) l_L_law_1007 rfl ?_
  refine lc_call [0, 1] h20 A10_ (by omega) l_L_law_1008 rfl rfl g_X11_sail (by decide) (by decide) (by decide) rfl rfl (fun R9 h9 => Or.inl ⟨_, _, rfl, h9⟩) (of_v_nr _) (fun M11_ A11_ F11_ => ?_)
  show mw_Wp sc mw_Good d_L_law 400 (1011, [some (.ref 1000000), some (.ref b1), some (.ref b2), some (.int x3), some (.int v), some (.int c5), some (.int c6), some (.int c7), some (.ref b)], [.int (Int32.ofInt v9)], M11_, 16996, 109444) Qr Qx
  have A11_k0 := A10_k0.oth F11_ (Or.inl hd)
  have hn11 : ∀ x, 1000000 ≤ x → M11_.2.2.2.2.1 x = none := fun x a => F11_.2.2 x a (hn10 x a)
  refine lr _ (1012, [some (.ref 1000000), some (.ref b1), some (.ref b2), some (.int x3), some (.int v), some (.int c5), some (.int c6), some (.int c7), some (.ref b)], [.int 1, .int (Int32.ofInt v9)], M11_, 16996, 109444) l_L_law_1011 rfl ?_
  refine lr _ (1014, [some (.ref 1000000), some (.ref b1), some (.ref b2), some (.int x3), some (.int v), some (.int c5), some (.int c6), some (.int c7), some (.ref b)], [.int c7, .int 1, .int (Int32.ofInt v9)], M11_, 16996, 109444) l_L_law_1012 rfl ?_
  refine lr _ (1015, [some (.ref 1000000), some (.ref b1), some (.ref b2), some (.int x3), some (.int v), some (.int c5), some (.int c6), some (.int c7), some (.ref b)], [.int (1 + c7), .int (Int32.ofInt v9)], M11_, 16996, 109444) l_L_law_1014 rfl ?_
  refine lbF _ (¬ (Int32.ofInt v9) = (1 + c7)) (1103, [some (.ref 1000000), some (.ref b1), some (.ref b2), some (.int x3), some (.int v), some (.int c5), some (.int c6), some (.int c7), some (.ref b)], [], M11_, 16996, 109444) (1018, [some (.ref 1000000), some (.ref b1), some (.ref b2), some (.int x3), some (.int v), some (.int c5), some (.int c6), some (.int c7), some (.ref b)], [], M11_, 16996, 109444) l_L_law_1015 rfl h21 ?_
  refine lr _ (1020, [some (.ref 1000000), some (.ref b1), some (.ref b2), some (.int x3), some (.int v), some (.int c5), some (.int c6), some (.int c7), some (.ref b)], [.ref b], M11_, 16996, 109444) l_L_law_1018 rfl ?_
  refine lr _ (1021, [some (.ref 1000000), some (.ref b1), some (.ref b2), some (.int x3), some (.int v), some (.int c5), some (.int c6), some (.int c7), some (.ref b)], [.int 4, .ref b], M11_, 16996, 109444) l_L_law_1020 rfl ?_
  refine lr _ (1022, [some (.ref 1000000), some (.ref b1), some (.ref b2), some (.int x3), some (.int v), some (.int c5), some (.int c6), some (.int c7), some (.ref b)], [.int 0, .int 4, .ref b], M11_, 16996, 109444) l_L_law_1021 rfl ?_
  refine lr _ (1023, [some (.ref 1000000), some (.ref b1), some (.ref b2), some (.int x3), some (.int v), some (.int c5), some (.int c6), some (.int c7), some (.ref b)], [.int 0, .int 0, .int 4, .ref b], M11_, 16996, 109444) l_L_law_1022 rfl ?_
  refine lr _ (1024, [some (.ref 1000000), some (.ref b1), some (.ref b2), some (.int x3), some (.int v), some (.int c5), some (.int c6), some (.int c7), some (.ref b)], [.int 0, .int 0, .int 0, .int 4, .ref b], M11_, 16996, 109444) l_L_law_1023 rfl ?_
  refine lc_own [4, 0, 0, 0] _ h22 A11_ (by omega) l_L_law_1024 rfl rfl g_L_act (by decide) (by decide) (by decide) True.intro rfl rfl (fun M12_ A12_ F12_ => ?_)
  show mw_Wp sc mw_Good d_L_law 400 (1027, [some (.ref 1000000), some (.ref b1), some (.ref b2), some (.int x3), some (.int v), some (.int c5), some (.int c6), some (.int c7), some (.ref b)], [.int (-4 : Int32)], M12_, 16992, 109420) Qr Qx
  have A12_k0 := A11_k0.oth F12_ (Or.inl hd)
  have hn12 : ∀ x, 1000000 ≤ x → M12_.2.2.2.2.1 x = none := fun x a => F12_.2.2 x a (hn11 x a)
  refine lr _ (1029, [some (.ref 1000000), some (.ref b1), some (.ref b2), some (.int x3), some (.int v), some (.int c5), some (.int c6), some (.int c7), some (.ref b)], [.int (-4), .int (-4 : Int32)], M12_, 16992, 109420) l_L_law_1027 rfl ?_
  refine lbF _ (¬ (-4 : Int32) = (-4)) (1103, [some (.ref 1000000), some (.ref b1), some (.ref b2), some (.int x3), some (.int v), some (.int c5), some (.int c6), some (.int c7), some (.ref b)], [], M12_, 16992, 109420) (1032, [some (.ref 1000000), some (.ref b1), some (.ref b2), some (.int x3), some (.int v), some (.int c5), some (.int c6), some (.int c7), some (.ref b)], [], M12_, 16992, 109420) l_L_law_1029 rfl (by decide) ?_
  refine lr _ (1034, [some (.ref 1000000), some (.ref b1), some (.ref b2), some (.int x3), some (.int v), some (.int c5), some (.int c6), some (.int c7), some (.ref b)], [.ref b], M12_, 16992, 109420) l_L_law_1032 rfl ?_
  refine lr _ (1036, [some (.ref 1000000), some (.ref b1), some (.ref b2), some (.int x3), some (.int v), some (.int c5), some (.int c6), some (.int c7), some (.ref b)], [.int 8, .ref b], M12_, 16992, 109420) l_L_law_1034 rfl ?_
  refine lr _ (1037, [some (.ref 1000000), some (.ref b1), some (.ref b2), some (.int x3), some (.int v), some (.int c5), some (.int c6), some (.int c7), some (.ref b)], [.int 0, .int 8, .ref b], M12_, 16992, 109420) l_L_law_1036 rfl ?_
  refine lr _ (1038, [some (.ref 1000000), some (.ref b1), some (.ref b2), some (.int x3), some (.int v), some (.int c5), some (.int c6), some (.int c7), some (.ref b)], [.int 0, .int 0, .int 8, .ref b], M12_, 16992, 109420) l_L_law_1037 rfl ?_
  refine lr _ (1039, [some (.ref 1000000), some (.ref b1), some (.ref b2), some (.int x3), some (.int v), some (.int c5), some (.int c6), some (.int c7), some (.ref b)], [.int 0, .int 0, .int 0, .int 8, .ref b], M12_, 16992, 109420) l_L_law_1038 rfl ?_
  refine lc_own [8, 0, 0, 0] _ h23 A12_ (by omega) l_L_law_1039 rfl rfl g_L_act (by decide) (by decide) (by decide) True.intro rfl rfl (fun M13_ A13_ F13_ => ?_)
  show mw_Wp sc mw_Good d_L_law 400 (1042, [some (.ref 1000000), some (.ref b1), some (.ref b2), some (.int x3), some (.int v), some (.int c5), some (.int c6), some (.int c7), some (.ref b)], [.int (-3 : Int32)], M13_, 16988, 109396) Qr Qx
  have A13_k0 := A12_k0.oth F13_ (Or.inl hd)
  have hn13 : ∀ x, 1000000 ≤ x → M13_.2.2.2.2.1 x = none := fun x a => F13_.2.2 x a (hn12 x a)
  refine lr _ (1044, [some (.ref 1000000), some (.ref b1), some (.ref b2), some (.int x3), some (.int v), some (.int c5), some (.int c6), some (.int c7), some (.ref b)], [.int (-3), .int (-3 : Int32)], M13_, 16988, 109396) l_L_law_1042 rfl ?_
  refine lbF _ (¬ (-3 : Int32) = (-3)) (1103, [some (.ref 1000000), some (.ref b1), some (.ref b2), some (.int x3), some (.int v), some (.int c5), some (.int c6), some (.int c7), some (.ref b)], [], M13_, 16988, 109396) (1047, [some (.ref 1000000), some (.ref b1), some (.ref b2), some (.int x3), some (.int v), some (.int c5), some (.int c6), some (.int c7), some (.ref b)], [], M13_, 16988, 109396) l_L_law_1044 rfl (by decide) ?_
  exact K _ (A13_.up (by omega) (by omega)) A13_k0 hn13
theorem w_16 {s0 s1 : of_S} {b1 b2 b : Nat} {x3 v c5 c6 c7 : Int32} {l : List Int} {B : Int} (O1 : Off b1 302 M w B) (O3 : Off b 302 M s0 12000) (hd : b1 + 303 ≤ b) (hkn : ∀ x, 1000000 ≤ x → M.2.2.2.2.1 x = none) (hf0 : sp_isF s0.1.1 (0 : Int32).toInt) (hl1 : (sp_line s0.1.1 (0 : Int32).toInt s0.2.2.2.2).1 = (l.length : Int)) (hl2 : ∀ i : Nat, i < l.length → (sp_line s0.1.1 (0 : Int32).toInt s0.2.2.2.2).2 (i : Int) = l.getD i 0) (hs1 : (s0.1, s0.2.1, s0.2.2.1, sp_line s0.1.1 (0 : Int32).toInt s0.2.2.2.2) = s1) (hcatA : ky_all 1000029 c7 1000030 l) (hkdA : ky_kds 1000029 c7 1000030 = true)
    (h1 : la sc d_L_act [15, 0, 0, 0] s1 (-3 : Int32) s1 0 22 4 24)
    (K : ∀ (sb : Nat) (M' : mw_Mem), Off b sb M' s1 12000 → Off b1 302 M' w B → (∀ x, 1000000 ≤ x → M'.2.2.2.2.1 x = none) → mw_Wp sc mw_Good d_L_law 400 (1105, [some (.ref 1000000), some (.ref b1), some (.ref b2), some (.int x3), some (.int v), some (.int c5), some (.int c6), some (.int c7), some (.ref b)], [], M', 16550, 102392) Qr Qx) : mw_Wp sc mw_Good d_L_law 400 (1047, [some (.ref 1000000), some (.ref b1), some (.ref b2), some (.int x3), some (.int v), some (.int c5), some (.int c6), some (.int c7), some (.ref b)], [], M, 16988, 109396) Qr Qx := by
  refine lr _ (1049, [some (.ref 1000000), some (.ref b1), some (.ref b2), some (.int x3), some (.int v), some (.int c5), some (.int c6), some (.int c7), some (.ref b)], [.ref b], M, 16988, 109396) l_L_law_1047 rfl ?_
  refine lr _ (1051, [some (.ref 1000000), some (.ref b1), some (.ref b2), some (.int x3), some (.int v), some (.int c5), some (.int c6), some (.int c7), some (.ref b)], [.ref b, .ref b], M, 16988, 109396) l_L_law_1049 rfl ?_
  refine lr _ (1052, [some (.ref 1000000), some (.ref b1), some (.ref b2), some (.int x3), some (.int v), some (.int c5), some (.int c6), some (.int c7), some (.ref b)], [.int 0, .ref b, .ref b], M, 16988, 109396) l_L_law_1051 rfl ?_
  refine lc_desc (x := 0) hf0 O3 l_L_law_1052 rfl rfl (by decide) (by decide) (by decide) rfl rfl (fun R9 h9 => Or.inl ⟨_, _, rfl, h9⟩) (fun sb M1_ A1_ F1_ => ?_)
  rw [hl1]
  show mw_Wp sc mw_Good d_L_law 400 (1055, [some (.ref 1000000), some (.ref b1), some (.ref b2), some (.int x3), some (.int v), some (.int c5), some (.int c6), some (.int c7), some (.ref b)], [.int (Int32.ofInt (l.length : Int)), .ref b], M1_, 16961, 105396) Qr Qx
  have A1_k0 := O1.oth F1_ (Or.inl hd)
  have hn1 : ∀ x, 1000000 ≤ x → M1_.2.2.2.2.1 x = none := fun x a => F1_.2.2 x a (hkn x a)
  have Oz := A1_
  have Ox := A1_k0
  obtain ⟨uA, euA⟩ : ∃ u, u = M1_.2.2.2.2.2 := ⟨_, rfl⟩
  refine mw_Wp.fact (fun hMA => ?_)
  have hMA : M1_.2.2.2.2.2 ≤ 990000 := hMA
  obtain ⟨m1A, m2A, m3A, m4A, m5A, a5A, ⟨h1A, d1A, n1A⟩, ⟨h2A, d2A, n2A⟩, ⟨h3A, d3A, n3A⟩, ⟨h4A, d4A, n4A⟩, ⟨h5A, d5A, n5A, alA⟩, txA⟩ := hcatA
  obtain ⟨k1A, k2A, k3A, k4A⟩ := ky_kds_ok hkdA h1A h2A h3A h4A
  have s0A : mw_sub uA (kx_m ky_m0) (mw_ncell M1_ (1, 4)) := by rw [euA]; exact ky_sub0 hMA
  rw [← euA] at hMA
  refine lr _ (1058, [some (.ref 1000000), some (.ref b1), some (.ref b2), some (.int x3), some (.int v), some (.int c5), some (.int c6), some (.int c7), some (.ref b)], [.ref M1_.2.2.2.2.2, .int (Int32.ofInt (l.length : Int)), .ref b], (mw_ncell M1_ (1, 4)), 16960, 105392) l_L_law_1055 rfl ?_
  rw [← euA]
  refine lr _ (1059, [some (.ref 1000000), some (.ref b1), some (.ref b2), some (.int x3), some (.int v), some (.int c5), some (.int c6), some (.int c7), some (.ref b)], [.ref uA, .ref uA, .int (Int32.ofInt (l.length : Int)), .ref b], (mw_ncell M1_ (1, 4)), 16960, 105392) l_L_law_1058 rfl ?_
  refine lc_ky h1A s0A hMA rfl d1A n1A l_L_law_1059 rfl rfl rfl g_J4_init_da8c8 (by decide) (by decide) (by decide) ⟨_, rfl, fun z => absurd z (by decide)⟩ (by rw [List.map_cons, List.map_cons, show ky_v (.inr (some 0)) = .ref 0 from rfl, upu hMA]; rfl) rfl (fun N1A s1A f1A => ?_)
  show mw_Wp sc mw_Good d_L_law 400 (1062, [some (.ref 1000000), some (.ref b1), some (.ref b2), some (.int x3), some (.int v), some (.int c5), some (.int c6), some (.int c7), some (.ref b)], [.ref uA, .int (Int32.ofInt (l.length : Int)), .ref b], N1A, 16959, 105376) Qr Qx
  refine lr _ (1065, [some (.ref 1000000), some (.ref b1), some (.ref b2), some (.int x3), some (.int v), some (.int c5), some (.int c6), some (.int c7), some (.ref b)], [.ref 1000029, .ref uA, .int (Int32.ofInt (l.length : Int)), .ref b], N1A, 16959, 105376) l_L_law_1062 rfl ?_
  refine lc_ky h2A s1A hMA d1A d2A n2A l_L_law_1065 rfl rfl rfl g_J4_append_15ec4 (by decide) (by decide) (by decide) (Or.inl ⟨_, _, rfl, (by have q := (s1A.2 0 _ k1A).1; rw [Nat.zero_add] at q; exact q)⟩) (by rw [List.map_cons, List.map_cons, show ky_v (.inr (some 0)) = .ref 0 from rfl, upu hMA]; rfl) rfl (fun N2A s2A f2A => ?_)
  show mw_Wp sc mw_Good d_L_law 400 (1068, [some (.ref 1000000), some (.ref b1), some (.ref b2), some (.int x3), some (.int v), some (.int c5), some (.int c6), some (.int c7), some (.ref b)], [mw_upV uA (.ref 0), .int (Int32.ofInt (l.length : Int)), .ref b], N2A, 16958, 105226) Qr Qx
  rw [upu hMA]
  refine lr _ (1070, [some (.ref 1000000), some (.ref b1), some (.ref b2), some (.int x3), some (.int v), some (.int c5), some (.int c6), some (.int c7), some (.ref b)], [.int c7, .ref uA, .int (Int32.ofInt (l.length : Int)), .ref b], N2A, 16958, 105226) l_L_law_1068 rfl ?_
  refine lc_ky h3A s2A hMA d2A d3A n3A l_L_law_1070 rfl rfl rfl g_J4_append_bf812 (by decide) (by decide) (by decide) (Or.inl ⟨_, _, rfl, (by have q := (s2A.2 0 _ k2A).1; rw [Nat.zero_add] at q; exact q)⟩) (by rw [List.map_cons, List.map_cons, show ky_v (.inr (some 0)) = .ref 0 from rfl, upu hMA]; rfl) rfl (fun N3A s3A f3A => ?_)
  show mw_Wp sc mw_Good d_L_law 400 (1073, [some (.ref 1000000), some (.ref b1), some (.ref b2), some (.int x3), some (.int v), some (.int c5), some (.int c6), some (.int c7), some (.ref b)], [mw_upV uA (.ref 0), .int (Int32.ofInt (l.length : Int)), .ref b], N3A, 16957, 105076) Qr Qx
  rw [upu hMA]
  refine lr _ (1076, [some (.ref 1000000), some (.ref b1), some (.ref b2), some (.int x3), some (.int v), some (.int c5), some (.int c6), some (.int c7), some (.ref b)], [.ref 1000030, .ref uA, .int (Int32.ofInt (l.length : Int)), .ref b], N3A, 16957, 105076) l_L_law_1073 rfl ?_
  refine lc_ky h4A s3A hMA d3A d4A n4A l_L_law_1076 rfl rfl rfl g_J4_append_15ec4 (by decide) (by decide) (by decide) (Or.inl ⟨_, _, rfl, (by have q := (s3A.2 0 _ k3A).1; rw [Nat.zero_add] at q; exact q)⟩) (by rw [List.map_cons, List.map_cons, show ky_v (.inr (some 0)) = .ref 0 from rfl, upu hMA]; rfl) rfl (fun N4A s4A f4A => ?_)
  show mw_Wp sc mw_Good d_L_law 400 (1079, [some (.ref 1000000), some (.ref b1), some (.ref b2), some (.int x3), some (.int v), some (.int c5), some (.int c6), some (.int c7), some (.ref b)], [mw_upV uA (.ref 0), .int (Int32.ofInt (l.length : Int)), .ref b], N4A, 16956, 104926) Qr Qx
  rw [upu hMA]
  refine lc_ky h5A s4A hMA d4A d5A n5A l_L_law_1079 rfl rfl rfl g_J4_toString_0e30d (by decide) (by decide) (by decide) (Or.inl ⟨_, _, rfl, (by have q := (s4A.2 0 _ k4A).1; rw [Nat.zero_add] at q; exact q)⟩) (by rw [List.map_cons, List.map_cons, show ky_v (.inr (some 0)) = .ref 0 from rfl, upu hMA]; rfl) rfl (fun N5A s5A f5A => ?_)
  show mw_Wp sc mw_Good d_L_law 400 (1082, [some (.ref 1000000), some (.ref b1), some (.ref b2), some (.int x3), some (.int v), some (.int c5), some (.int c6), some (.int c7), some (.ref b)], [mw_upV uA (.ref a5A), .int (Int32.ofInt (l.length : Int)), .ref b], N5A, 16954, 104816) Qr Qx
  refine mw_Wp.fact (fun hZA => ?_)
  have hZA : N5A.2.2.2.2.2 ≤ 990000 := hZA
  have nzA : N5A.2.2.2.2.2 = m5A.2.2.2 + uA := s5A.1
  rw [upa (a := a5A) (u := uA) (by omega)]
  have flA : LF uA M1_ N5A := (LF.trans (by rw [euA]; exact LF.nc (Nat.le_refl _) (by rw [← euA]; omega)) f1A).trans (f2A.trans (f3A.trans (f4A.trans f5A)))
  have Oz_A := Oz.fr flA.1 (fun x hx => flA.2.1 x (by have := Oz.kd; omega))
  have Ox_A := Ox.fr flA.1 (fun x hx => flA.2.1 x (by have := Ox.kd; omega))
  have hnA : ∀ x, 1000000 ≤ x → N5A.2.2.2.2.1 x = none := fun x a => flA.2.2 x a (hn1 x a)
  have stA := ky_Str s5A hMA d5A txA
  refine mw_Wp.cal _ d_L_isLine 30 400 2400 l_L_law_1082 rfl rfl g_L_isLine (by decide) (by decide) (by decide) True.intro ?_
  refine t_isLine (n := l.length) (f := fun k => l.getD k 0) Oz_A (by omega) hl1 hl2 (fun M9 F9 => ky_StrF s5A hMA d5A txA F9 (by have := Oz.kd; omega) (by have := Oz.kd; omega)) (fun M2_ A2_ F2_ => ?_)
  show mw_Wp sc mw_Good d_L_law 400 (1085, [some (.ref 1000000), some (.ref b1), some (.ref b2), some (.int x3), some (.int v), some (.int c5), some (.int c6), some (.int c7), some (.ref b)], [.int 1], M2_, 16554, 102416) Qr Qx
  have A2_k0 := Ox_A.oth F2_ (Or.inl hd)
  have hn2 : ∀ x, 1000000 ≤ x → M2_.2.2.2.2.1 x = none := fun x a => F2_.2.2 x a (hnA x a)
  refine lbF _ (1 = 0) (1103, [some (.ref 1000000), some (.ref b1), some (.ref b2), some (.int x3), some (.int v), some (.int c5), some (.int c6), some (.int c7), some (.ref b)], [], M2_, 16554, 102416) (1088, [some (.ref 1000000), some (.ref b1), some (.ref b2), some (.int x3), some (.int v), some (.int c5), some (.int c6), some (.int c7), some (.ref b)], [], M2_, 16554, 102416) l_L_law_1085 rfl (by decide) ?_
  rw [hs1] at A2_
  refine lr _ (1090, [some (.ref 1000000), some (.ref b1), some (.ref b2), some (.int x3), some (.int v), some (.int c5), some (.int c6), some (.int c7), some (.ref b)], [.ref b], M2_, 16554, 102416) l_L_law_1088 rfl ?_
  refine lr _ (1092, [some (.ref 1000000), some (.ref b1), some (.ref b2), some (.int x3), some (.int v), some (.int c5), some (.int c6), some (.int c7), some (.ref b)], [.int 15, .ref b], M2_, 16554, 102416) l_L_law_1090 rfl ?_
  refine lr _ (1093, [some (.ref 1000000), some (.ref b1), some (.ref b2), some (.int x3), some (.int v), some (.int c5), some (.int c6), some (.int c7), some (.ref b)], [.int 0, .int 15, .ref b], M2_, 16554, 102416) l_L_law_1092 rfl ?_
  refine lr _ (1094, [some (.ref 1000000), some (.ref b1), some (.ref b2), some (.int x3), some (.int v), some (.int c5), some (.int c6), some (.int c7), some (.ref b)], [.int 0, .int 0, .int 15, .ref b], M2_, 16554, 102416) l_L_law_1093 rfl ?_
  refine lr _ (1095, [some (.ref 1000000), some (.ref b1), some (.ref b2), some (.int x3), some (.int v), some (.int c5), some (.int c6), some (.int c7), some (.ref b)], [.int 0, .int 0, .int 0, .int 15, .ref b], M2_, 16554, 102416) l_L_law_1094 rfl ?_
  refine lc_own [15, 0, 0, 0] _ h1 A2_ (by omega) l_L_law_1095 rfl rfl g_L_act (by decide) (by decide) (by decide) True.intro rfl rfl (fun M3_ A3_ F3_ => ?_)
  show mw_Wp sc mw_Good d_L_law 400 (1098, [some (.ref 1000000), some (.ref b1), some (.ref b2), some (.int x3), some (.int v), some (.int c5), some (.int c6), some (.int c7), some (.ref b)], [.int (-3 : Int32)], M3_, 16550, 102392) Qr Qx
  have A3_k0 := A2_k0.oth F3_ (Or.inl hd)
  have hn3 : ∀ x, 1000000 ≤ x → M3_.2.2.2.2.1 x = none := fun x a => F3_.2.2 x a (hn2 x a)
  refine lr _ (1100, [some (.ref 1000000), some (.ref b1), some (.ref b2), some (.int x3), some (.int v), some (.int c5), some (.int c6), some (.int c7), some (.ref b)], [.int (-3), .int (-3 : Int32)], M3_, 16550, 102392) l_L_law_1098 rfl ?_
  refine lbT _ ((-3 : Int32) = (-3)) (1105, [some (.ref 1000000), some (.ref b1), some (.ref b2), some (.int x3), some (.int v), some (.int c5), some (.int c6), some (.int c7), some (.ref b)], [], M3_, 16550, 102392) (1103, [some (.ref 1000000), some (.ref b1), some (.ref b2), some (.int x3), some (.int v), some (.int c5), some (.int c6), some (.int c7), some (.ref b)], [], M3_, 16550, 102392) l_L_law_1100 rfl (by decide) ?_
  exact K _ _ (A3_.up (by omega) (by omega)) A3_k0 hn3
end
