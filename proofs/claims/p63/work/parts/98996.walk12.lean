/-! the law walked: a passage, landings, coins -/
section
variable {sc : Nat × (Nat → Int32)} {M : mw_Mem} {Qr : Option Value → mw_Mem → Prop} {Qx : Nat → mw_Mem → Prop} {w : of_S}
theorem w_17 {s0 s1 s2 s3 s4 s5 s6 s7 : of_S} {b1 b2 b sb : Nat} {x3 v c5 c6 c7 a6 : Int32} {v1 v2 v3 v4 v5 v7 v8 v9 v10 v11 v12 v13 v14 : Int} {B : Int} (O1 : Off b1 302 M w B) (O3 : Off b sb M s0 12000) (hd : b1 + 303 ≤ b) (hkn : ∀ x, 1000000 ≤ x → M.2.2.2.2.1 x = none) 
    (h1 : of_call d_X11_pass ([(c7 : Int32)].map (fun v => (.inl v.toInt : nw_V))) s0 (of_v (.inr v1)) s1 200)
    (h2 : ¬ (¬ (Int32.ofInt v1) = 1))
    (h3 : of_call d_X11_craterOf ([(0 : Int32)].map (fun v => (.inl v.toInt : nw_V))) s1 (of_v (.inr v2)) s1 0)
    (h4 : ¬ (¬ (Int32.ofInt v2) = 1))
    (h5 : of_call d_X11_passageCrater ([(0 : Int32)].map (fun v => (.inl v.toInt : nw_V))) s1 (of_v (.inr v3)) s1 0)
    (h6 : ¬ (¬ (Int32.ofInt v3) = 1))
    (h7 : of_call d_X11_passageHour ([(0 : Int32)].map (fun v => (.inl v.toInt : nw_V))) s1 (of_v (.inr v4)) s1 0)
    (h8 : ¬ (¬ (Int32.ofInt v4) = (1 + c7)))
    (h9 : of_call d_X11_passageFerry ([(0 : Int32)].map (fun v => (.inl v.toInt : nw_V))) s1 (of_v (.inr v5)) s1 0)
    (h10 : ¬ (¬ (Int32.ofInt v5) = 0))
    (h11 : la sc d_L_act [2, 0, 0, 0] s1 a6 s2 200 22 4 24)
    (h12 : ¬ c7 = 0)
    (h13 : ¬ (¬ a6 = (1 + (2 * c7))))
    (h14 : of_call d_X11_undo [] s2 (of_v (.inr v7)) s3 0)
    (h15 : ¬ ((Int32.ofInt v7) < 0))
    (h16 : of_call d_X11_isStranded ([(0 : Int32)].map (fun v => (.inl v.toInt : nw_V))) s3 (of_v (.inr v8)) s3 0)
    (h17 : ¬ (¬ (Int32.ofInt v8) = 0))
    (h18 : of_call d_X11_land ([(1 : Int32)].map (fun v => (.inl v.toInt : nw_V))) s3 (of_v (.inr v9)) s4 200)
    (h19 : ¬ (¬ (Int32.ofInt v9) = 0))
    (h20 : of_call d_X11_shoreOf ([(1 : Int32)].map (fun v => (.inl v.toInt : nw_V))) s4 (of_v (.inr v10)) s4 0)
    (h21 : ¬ (¬ (Int32.ofInt v10) = 1))
    (h22 : of_call d_X11_fareOf ([(1 : Int32)].map (fun v => (.inl v.toInt : nw_V))) s4 (of_v (.inr v11)) s4 0)
    (h23 : ¬ (¬ (Int32.ofInt v11) = (3 * (c7 + 3))))
    (h24 : of_call d_X11_sail ([(0 : Int32), 2].map (fun v => (.inl v.toInt : nw_V))) s4 (of_v (.inr v12)) s5 200)
    (h25 : ¬ (¬ (Int32.ofInt v12) = (c7 + 4)))
    (h26 : of_call d_X11_pass ([(3 : Int32)].map (fun v => (.inl v.toInt : nw_V))) s5 (of_v (.inr v13)) s6 200)
    (h27 : ¬ (¬ (Int32.ofInt v13) = 1))
    (h28 : of_call d_X11_land ([(0 : Int32)].map (fun v => (.inl v.toInt : nw_V))) s6 (of_v (.inr v14)) s7 200)
    (h29 : ¬ (¬ (Int32.ofInt v14) = (5 * (c7 + 3))))
    (K : ∀ (M' : mw_Mem), Off b sb M' s7 14000 → Off b1 302 M' w B → (∀ x, 1000000 ≤ x → M'.2.2.2.2.1 x = none) → mw_Wp sc mw_Good d_L_law 400 (1276, [some (.ref 1000000), some (.ref b1), some (.ref b2), some (.int x3), some (.int v), some (.int c5), some (.int c6), some (.int c7), some (.ref b)], [], M', 16494, 102056) Qr Qx) : mw_Wp sc mw_Good d_L_law 400 (1105, [some (.ref 1000000), some (.ref b1), some (.ref b2), some (.int x3), some (.int v), some (.int c5), some (.int c6), some (.int c7), some (.ref b)], [], M, 16550, 102392) Qr Qx := by
  refine lr _ (1107, [some (.ref 1000000), some (.ref b1), some (.ref b2), some (.int x3), some (.int v), some (.int c5), some (.int c6), some (.int c7), some (.ref b)], [.ref b], M, 16550, 102392) l_L_law_1105 rfl ?_
  refine lr _ (1109, [some (.ref 1000000), some (.ref b1), some (.ref b2), some (.int x3), some (.int v), some (.int c5), some (.int c6), some (.int c7), some (.ref b)], [.int c7, .ref b], M, 16550, 102392) l_L_law_1107 rfl ?_
  refine lc_call [c7] h1 O3 (by omega) l_L_law_1109 rfl rfl g_X11_pass (by decide) (by decide) (by decide) rfl rfl (fun R9 h9 => Or.inl ⟨_, _, rfl, h9⟩) (of_v_nr _) (fun M1_ A1_ F1_ => ?_)
  show mw_Wp sc mw_Good d_L_law 400 (1112, [some (.ref 1000000), some (.ref b1), some (.ref b2), some (.int x3), some (.int v), some (.int c5), some (.int c6), some (.int c7), some (.ref b)], [.int (Int32.ofInt v1)], M1_, 16546, 102368) Qr Qx
  have A1_k0 := O1.oth F1_ (Or.inl hd)
  have hn1 : ∀ x, 1000000 ≤ x → M1_.2.2.2.2.1 x = none := fun x a => F1_.2.2 x a (hkn x a)
  refine lr _ (1113, [some (.ref 1000000), some (.ref b1), some (.ref b2), some (.int x3), some (.int v), some (.int c5), some (.int c6), some (.int c7), some (.ref b)], [.int 1, .int (Int32.ofInt v1)], M1_, 16546, 102368) l_L_law_1112 rfl ?_
  refine lbF _ (¬ (Int32.ofInt v1) = 1) (1329, [some (.ref 1000000), some (.ref b1), some (.ref b2), some (.int x3), some (.int v), some (.int c5), some (.int c6), some (.int c7), some (.ref b)], [], M1_, 16546, 102368) (1116, [some (.ref 1000000), some (.ref b1), some (.ref b2), some (.int x3), some (.int v), some (.int c5), some (.int c6), some (.int c7), some (.ref b)], [], M1_, 16546, 102368) l_L_law_1113 rfl h2 ?_
  refine lr _ (1118, [some (.ref 1000000), some (.ref b1), some (.ref b2), some (.int x3), some (.int v), some (.int c5), some (.int c6), some (.int c7), some (.ref b)], [.ref b], M1_, 16546, 102368) l_L_law_1116 rfl ?_
  refine lr _ (1119, [some (.ref 1000000), some (.ref b1), some (.ref b2), some (.int x3), some (.int v), some (.int c5), some (.int c6), some (.int c7), some (.ref b)], [.int 0, .ref b], M1_, 16546, 102368) l_L_law_1118 rfl ?_
  refine lc_call [0] h3 A1_ (by omega) l_L_law_1119 rfl rfl g_X11_craterOf (by decide) (by decide) (by decide) rfl rfl (fun R9 h9 => Or.inl ⟨_, _, rfl, h9⟩) (of_v_nr _) (fun M2_ A2_ F2_ => ?_)
  show mw_Wp sc mw_Good d_L_law 400 (1122, [some (.ref 1000000), some (.ref b1), some (.ref b2), some (.int x3), some (.int v), some (.int c5), some (.int c6), some (.int c7), some (.ref b)], [.int (Int32.ofInt v2)], M2_, 16542, 102344) Qr Qx
  have A2_k0 := A1_k0.oth F2_ (Or.inl hd)
  have hn2 : ∀ x, 1000000 ≤ x → M2_.2.2.2.2.1 x = none := fun x a => F2_.2.2 x a (hn1 x a)
  refine lr _ (1123, [some (.ref 1000000), some (.ref b1), some (.ref b2), some (.int x3), some (.int v), some (.int c5), some (.int c6), some (.int c7), some (.ref b)], [.int 1, .int (Int32.ofInt v2)], M2_, 16542, 102344) l_L_law_1122 rfl ?_
  refine lbF _ (¬ (Int32.ofInt v2) = 1) (1329, [some (.ref 1000000), some (.ref b1), some (.ref b2), some (.int x3), some (.int v), some (.int c5), some (.int c6), some (.int c7), some (.ref b)], [], M2_, 16542, 102344) (1126, [some (.ref 1000000), some (.ref b1), some (.ref b2), some (.int x3), some (.int v), some (.int c5), some (.int c6), some (.int c7), some (.ref b)], [], M2_, 16542, 102344) l_L_law_1123 rfl h4 ?_
  refine lr _ (1128, [some (.ref 1000000), some (.ref b1), some (.ref b2), some (.int x3), some (.int v), some (.int c5), some (.int c6), some (.int c7), some (.ref b)], [.ref b], M2_, 16542, 102344) l_L_law_1126 rfl ?_
  refine lr _ (1129, [some (.ref 1000000), some (.ref b1), some (.ref b2), some (.int x3), some (.int v), some (.int c5), some (.int c6), some (.int c7), some (.ref b)], [.int 0, .ref b], M2_, 16542, 102344) l_L_law_1128 rfl ?_
  refine lc_call [0] h5 A2_ (by omega) l_L_law_1129 rfl rfl g_X11_passageCrater (by decide) (by decide) (by decide) rfl rfl (fun R9 h9 => Or.inl ⟨_, _, rfl, h9⟩) (of_v_nr _) (fun M3_ A3_ F3_ => ?_)
  show mw_Wp sc mw_Good d_L_law 400 (1132, [some (.ref 1000000), some (.ref b1), some (.ref b2), some (.int x3), some (.int v), some (.int c5), some (.int c6), some (.int c7), some (.ref b)], [.int (Int32.ofInt v3)], M3_, 16538, 102320) Qr Qx
  have A3_k0 := A2_k0.oth F3_ (Or.inl hd)
  have hn3 : ∀ x, 1000000 ≤ x → M3_.2.2.2.2.1 x = none := fun x a => F3_.2.2 x a (hn2 x a)
  refine lr _ (1133, [some (.ref 1000000), some (.ref b1), some (.ref b2), some (.int x3), some (.int v), some (.int c5), some (.int c6), some (.int c7), some (.ref b)], [.int 1, .int (Int32.ofInt v3)], M3_, 16538, 102320) l_L_law_1132 rfl ?_
  refine lbF _ (¬ (Int32.ofInt v3) = 1) (1329, [some (.ref 1000000), some (.ref b1), some (.ref b2), some (.int x3), some (.int v), some (.int c5), some (.int c6), some (.int c7), some (.ref b)], [], M3_, 16538, 102320) (1136, [some (.ref 1000000), some (.ref b1), some (.ref b2), some (.int x3), some (.int v), some (.int c5), some (.int c6), some (.int c7), some (.ref b)], [], M3_, 16538, 102320) l_L_law_1133 rfl h6 ?_
  refine lr _ (1138, [some (.ref 1000000), some (.ref b1), some (.ref b2), some (.int x3), some (.int v), some (.int c5), some (.int c6), some (.int c7), some (.ref b)], [.ref b], M3_, 16538, 102320) l_L_law_1136 rfl ?_
  refine lr _ (1139, [some (.ref 1000000), some (.ref b1), some (.ref b2), some (.int x3), some (.int v), some (.int c5), some (.int c6), some (.int c7), some (.ref b)], [.int 0, .ref b], M3_, 16538, 102320) l_L_law_1138 rfl ?_
  refine lc_call [0] h7 A3_ (by omega) l_L_law_1139 rfl rfl g_X11_passageHour (by decide) (by decide) (by decide) rfl rfl (fun R9 h9 => Or.inl ⟨_, _, rfl, h9⟩) (of_v_nr _) (fun M4_ A4_ F4_ => ?_)
  show mw_Wp sc mw_Good d_L_law 400 (1142, [some (.ref 1000000), some (.ref b1), some (.ref b2), some (.int x3), some (.int v), some (.int c5), some (.int c6), some (.int c7), some (.ref b)], [.int (Int32.ofInt v4)], M4_, 16534, 102296) Qr Qx
  have A4_k0 := A3_k0.oth F4_ (Or.inl hd)
  have hn4 : ∀ x, 1000000 ≤ x → M4_.2.2.2.2.1 x = none := fun x a => F4_.2.2 x a (hn3 x a)
  refine lr _ (1143, [some (.ref 1000000), some (.ref b1), some (.ref b2), some (.int x3), some (.int v), some (.int c5), some (.int c6), some (.int c7), some (.ref b)], [.int 1, .int (Int32.ofInt v4)], M4_, 16534, 102296) l_L_law_1142 rfl ?_
  refine lr _ (1145, [some (.ref 1000000), some (.ref b1), some (.ref b2), some (.int x3), some (.int v), some (.int c5), some (.int c6), some (.int c7), some (.ref b)], [.int c7, .int 1, .int (Int32.ofInt v4)], M4_, 16534, 102296) l_L_law_1143 rfl ?_
  refine lr _ (1146, [some (.ref 1000000), some (.ref b1), some (.ref b2), some (.int x3), some (.int v), some (.int c5), some (.int c6), some (.int c7), some (.ref b)], [.int (1 + c7), .int (Int32.ofInt v4)], M4_, 16534, 102296) l_L_law_1145 rfl ?_
  refine lbF _ (¬ (Int32.ofInt v4) = (1 + c7)) (1329, [some (.ref 1000000), some (.ref b1), some (.ref b2), some (.int x3), some (.int v), some (.int c5), some (.int c6), some (.int c7), some (.ref b)], [], M4_, 16534, 102296) (1149, [some (.ref 1000000), some (.ref b1), some (.ref b2), some (.int x3), some (.int v), some (.int c5), some (.int c6), some (.int c7), some (.ref b)], [], M4_, 16534, 102296) l_L_law_1146 rfl h8 ?_
  refine lr _ (1151, [some (.ref 1000000), some (.ref b1), some (.ref b2), some (.int x3), some (.int v), some (.int c5), some (.int c6), some (.int c7), some (.ref b)], [.ref b], M4_, 16534, 102296) l_L_law_1149 rfl ?_
  refine lr _ (1152, [some (.ref 1000000), some (.ref b1), some (.ref b2), some (.int x3), some (.int v), some (.int c5), some (.int c6), some (.int c7), some (.ref b)], [.int 0, .ref b], M4_, 16534, 102296) l_L_law_1151 rfl ?_
  refine lc_call [0] h9 A4_ (by omega) l_L_law_1152 rfl rfl g_X11_passageFerry (by decide) (by decide) (by decide) rfl rfl (fun R9 h9 => Or.inl ⟨_, _, rfl, h9⟩) (of_v_nr _) (fun M5_ A5_ F5_ => ?_)
  show mw_Wp sc mw_Good d_L_law 400 (1155, [some (.ref 1000000), some (.ref b1), some (.ref b2), some (.int x3), some (.int v), some (.int c5), some (.int c6), some (.int c7), some (.ref b)], [.int (Int32.ofInt v5)], M5_, 16530, 102272) Qr Qx
  have A5_k0 := A4_k0.oth F5_ (Or.inl hd)
  have hn5 : ∀ x, 1000000 ≤ x → M5_.2.2.2.2.1 x = none := fun x a => F5_.2.2 x a (hn4 x a)
  refine lbF _ (¬ (Int32.ofInt v5) = 0) (1329, [some (.ref 1000000), some (.ref b1), some (.ref b2), some (.int x3), some (.int v), some (.int c5), some (.int c6), some (.int c7), some (.ref b)], [], M5_, 16530, 102272) (1158, [some (.ref 1000000), some (.ref b1), some (.ref b2), some (.int x3), some (.int v), some (.int c5), some (.int c6), some (.int c7), some (.ref b)], [], M5_, 16530, 102272) l_L_law_1155 rfl h10 ?_
  refine lr _ (1160, [some (.ref 1000000), some (.ref b1), some (.ref b2), some (.int x3), some (.int v), some (.int c5), some (.int c6), some (.int c7), some (.ref b)], [.ref b], M5_, 16530, 102272) l_L_law_1158 rfl ?_
  refine lr _ (1161, [some (.ref 1000000), some (.ref b1), some (.ref b2), some (.int x3), some (.int v), some (.int c5), some (.int c6), some (.int c7), some (.ref b)], [.int 2, .ref b], M5_, 16530, 102272) l_L_law_1160 rfl ?_
  refine lr _ (1162, [some (.ref 1000000), some (.ref b1), some (.ref b2), some (.int x3), some (.int v), some (.int c5), some (.int c6), some (.int c7), some (.ref b)], [.int 0, .int 2, .ref b], M5_, 16530, 102272) l_L_law_1161 rfl ?_
  refine lr _ (1163, [some (.ref 1000000), some (.ref b1), some (.ref b2), some (.int x3), some (.int v), some (.int c5), some (.int c6), some (.int c7), some (.ref b)], [.int 0, .int 0, .int 2, .ref b], M5_, 16530, 102272) l_L_law_1162 rfl ?_
  refine lr _ (1164, [some (.ref 1000000), some (.ref b1), some (.ref b2), some (.int x3), some (.int v), some (.int c5), some (.int c6), some (.int c7), some (.ref b)], [.int 0, .int 0, .int 0, .int 2, .ref b], M5_, 16530, 102272) l_L_law_1163 rfl ?_
  refine lc_own [2, 0, 0, 0] _ h11 A5_ (by omega) l_L_law_1164 rfl rfl g_L_act (by decide) (by decide) (by decide) True.intro rfl rfl (fun M6_ A6_ F6_ => ?_)
  show mw_Wp sc mw_Good d_L_law 400 (1167, [some (.ref 1000000), some (.ref b1), some (.ref b2), some (.int x3), some (.int v), some (.int c5), some (.int c6), some (.int c7), some (.ref b)], [.int a6], M6_, 16526, 102248) Qr Qx
  have A6_k0 := A5_k0.oth F6_ (Or.inl hd)
  have hn6 : ∀ x, 1000000 ≤ x → M6_.2.2.2.2.1 x = none := fun x a => F6_.2.2 x a (hn5 x a)
  refine lr _ (1169, [some (.ref 1000000), some (.ref b1), some (.ref b2), some (.int x3), some (.int v), some (.int c5), some (.int c6), some (.int c7), some (.ref b)], [.int c7, .int a6], M6_, 16526, 102248) l_L_law_1167 rfl ?_
  refine lbT _ (¬ c7 = 0) (1177, [some (.ref 1000000), some (.ref b1), some (.ref b2), some (.int x3), some (.int v), some (.int c5), some (.int c6), some (.int c7), some (.ref b)], [.int a6], M6_, 16526, 102248) (1172, [some (.ref 1000000), some (.ref b1), some (.ref b2), some (.int x3), some (.int v), some (.int c5), some (.int c6), some (.int c7), some (.ref b)], [.int a6], M6_, 16526, 102248) l_L_law_1169 rfl h12 ?_
  refine lr _ (1178, [some (.ref 1000000), some (.ref b1), some (.ref b2), some (.int x3), some (.int v), some (.int c5), some (.int c6), some (.int c7), some (.ref b)], [.int 1, .int a6], M6_, 16526, 102248) l_L_law_1177 rfl ?_
  refine lr _ (1179, [some (.ref 1000000), some (.ref b1), some (.ref b2), some (.int x3), some (.int v), some (.int c5), some (.int c6), some (.int c7), some (.ref b)], [.int 2, .int 1, .int a6], M6_, 16526, 102248) l_L_law_1178 rfl ?_
  refine lr _ (1181, [some (.ref 1000000), some (.ref b1), some (.ref b2), some (.int x3), some (.int v), some (.int c5), some (.int c6), some (.int c7), some (.ref b)], [.int c7, .int 2, .int 1, .int a6], M6_, 16526, 102248) l_L_law_1179 rfl ?_
  refine lr _ (1182, [some (.ref 1000000), some (.ref b1), some (.ref b2), some (.int x3), some (.int v), some (.int c5), some (.int c6), some (.int c7), some (.ref b)], [.int (2 * c7), .int 1, .int a6], M6_, 16526, 102248) l_L_law_1181 rfl ?_
  refine lr _ (1183, [some (.ref 1000000), some (.ref b1), some (.ref b2), some (.int x3), some (.int v), some (.int c5), some (.int c6), some (.int c7), some (.ref b)], [.int (1 + (2 * c7)), .int a6], M6_, 16526, 102248) l_L_law_1182 rfl ?_
  refine lbF _ (¬ a6 = (1 + (2 * c7))) (1329, [some (.ref 1000000), some (.ref b1), some (.ref b2), some (.int x3), some (.int v), some (.int c5), some (.int c6), some (.int c7), some (.ref b)], [], M6_, 16526, 102248) (1186, [some (.ref 1000000), some (.ref b1), some (.ref b2), some (.int x3), some (.int v), some (.int c5), some (.int c6), some (.int c7), some (.ref b)], [], M6_, 16526, 102248) l_L_law_1183 rfl h13 ?_
  refine lr _ (1188, [some (.ref 1000000), some (.ref b1), some (.ref b2), some (.int x3), some (.int v), some (.int c5), some (.int c6), some (.int c7), some (.ref b)], [.ref b], M6_, 16526, 102248) l_L_law_1186 rfl ?_
  refine lc_call [] h14 A6_ (by omega) l_L_law_1188 rfl rfl g_X11_undo (by decide) (by decide) (by decide) rfl rfl (fun R9 h9 => Or.inl ⟨_, _, rfl, h9⟩) (of_v_nr _) (fun M7_ A7_ F7_ => ?_)
  show mw_Wp sc mw_Good d_L_law 400 (1191, [some (.ref 1000000), some (.ref b1), some (.ref b2), some (.int x3), some (.int v), some (.int c5), some (.int c6), some (.int c7), some (.ref b)], [.int (Int32.ofInt v7)], M7_, 16522, 102224) Qr Qx
  have A7_k0 := A6_k0.oth F7_ (Or.inl hd)
  have hn7 : ∀ x, 1000000 ≤ x → M7_.2.2.2.2.1 x = none := fun x a => F7_.2.2 x a (hn6 x a)
  refine lbF _ ((Int32.ofInt v7) < 0) (1329, [some (.ref 1000000), some (.ref b1), some (.ref b2), some (.int x3), some (.int v), some (.int c5), some (.int c6), some (.int c7), some (.ref b)], [], M7_, 16522, 102224) (1194, [some (.ref 1000000), some (.ref b1), some (.ref b2), some (.int x3), some (.int v), some (.int c5), some (.int c6), some (.int c7), some (.ref b)], [], M7_, 16522, 102224) l_L_law_1191 rfl h15 ?_
  refine lr _ (1196, [some (.ref 1000000), some (.ref b1), some (.ref b2), some (.int x3), some (.int v), some (.int c5), some (.int c6), some (.int c7), some (.ref b)], [.ref b], M7_, 16522, 102224) l_L_law_1194 rfl ?_
  refine lr _ (1197, [some (.ref 1000000), some (.ref b1), some (.ref b2), some (.int x3), some (.int v), some (.int c5), some (.int c6), some (.int c7), some (.ref b)], [.int 0, .ref b], M7_, 16522, 102224) l_L_law_1196 rfl ?_
  refine lc_call [0] h16 A7_ (by omega) l_L_law_1197 rfl rfl g_X11_isStranded (by decide) (by decide) (by decide) rfl rfl (fun R9 h9 => Or.inl ⟨_, _, rfl, h9⟩) (of_v_nr _) (fun M8_ A8_ F8_ => ?_)
  show mw_Wp sc mw_Good d_L_law 400 (1200, [some (.ref 1000000), some (.ref b1), some (.ref b2), some (.int x3), some (.int v), some (.int c5), some (.int c6), some (.int c7), some (.ref b)], [.int (Int32.ofInt v8)], M8_, 16518, 102200) Qr Qx
  have A8_k0 := A7_k0.oth F8_ (Or.inl hd)
  have hn8 : ∀ x, 1000000 ≤ x → M8_.2.2.2.2.1 x = none := fun x a => F8_.2.2 x a (hn7 x a)
  refine lbF _ (¬ (Int32.ofInt v8) = 0) (1329, [some (.ref 1000000), some (.ref b1), some (.ref b2), some (.int x3), some (.int v), some (.int c5), some (.int c6), some (.int c7), some (.ref b)], [], M8_, 16518, 102200) (1203, [some (.ref 1000000), some (.ref b1), some (.ref b2), some (.int x3), some (.int v), some (.int c5), some (.int c6), some (.int c7), some (.ref b)], [], M8_, 16518, 102200) l_L_law_1200 rfl h17 ?_
  refine lr _ (1205, [some (.ref 1000000), some (.ref b1), some (.ref b2), some (.int x3), some (.int v), some (.int c5), some (.int c6), some (.int c7), some (.ref b)], [.ref b], M8_, 16518, 102200) l_L_law_1203 rfl ?_
  refine lr _ (1206, [some (.ref 1000000), some (.ref b1), some (.ref b2), some (.int x3), some (.int v), some (.int c5), some (.int c6), some (.int c7), some (.ref b)], [.int 1, .ref b], M8_, 16518, 102200) l_L_law_1205 rfl ?_
  refine lc_call [1] h18 A8_ (by omega) l_L_law_1206 rfl rfl g_X11_land (by decide) (by decide) (by decide) rfl rfl (fun R9 h9 => Or.inl ⟨_, _, rfl, h9⟩) (of_v_nr _) (fun M9_ A9_ F9_ => ?_)
  show mw_Wp sc mw_Good d_L_law 400 (1209, [some (.ref 1000000), some (.ref b1), some (.ref b2), some (.int x3), some (.int v), some (.int c5), some (.int c6), some (.int c7), some (.ref b)], [.int (Int32.ofInt v9)], M9_, 16514, 102176) Qr Qx
  have A9_k0 := A8_k0.oth F9_ (Or.inl hd)
  have hn9 : ∀ x, 1000000 ≤ x → M9_.2.2.2.2.1 x = none := fun x a => F9_.2.2 x a (hn8 x a)
  refine lbF _ (¬ (Int32.ofInt v9) = 0) (1329, [some (.ref 1000000), some (.ref b1), some (.ref b2), some (.int x3), some (.int v), some (.int c5), some (.int c6), some (.int c7), some (.ref b)], [], M9_, 16514, 102176) (1212, [some (.ref 1000000), some (.ref b1), some (.ref b2), some (.int x3), some (.int v), some (.int c5), some (.int c6), some (.int c7), some (.ref b)], [], M9_, 16514, 102176) l_L_law_1209 rfl h19 ?_
  refine lr _ (1214, [some (.ref 1000000), some (.ref b1), some (.ref b2), some (.int x3), some (.int v), some (.int c5), some (.int c6), some (.int c7), some (.ref b)], [.ref b], M9_, 16514, 102176) l_L_law_1212 rfl ?_
  refine lr _ (1215, [some (.ref 1000000), some (.ref b1), some (.ref b2), some (.int x3), some (.int v), some (.int c5), some (.int c6), some (.int c7), some (.ref b)], [.int 1, .ref b], M9_, 16514, 102176) l_L_law_1214 rfl ?_
  refine lc_call [1] h20 A9_ (by omega) l_L_law_1215 rfl rfl g_X11_shoreOf (by decide) (by decide) (by decide) rfl rfl (fun R9 h9 => Or.inl ⟨_, _, rfl, h9⟩) (of_v_nr _) (fun M10_ A10_ F10_ => ?_)
  show mw_Wp sc mw_Good d_L_law 400 (1218, [some (.ref 1000000), some (.ref b1), some (.ref b2), some (.int x3), some (.int v), some (.int c5), some (.int c6), some (.int c7), some (.ref b)], [.int (Int32.ofInt v10)], M10_, 16510, 102152) Qr Qx
  have A10_k0 := A9_k0.oth F10_ (Or.inl hd)
  have hn10 : ∀ x, 1000000 ≤ x → M10_.2.2.2.2.1 x = none := fun x a => F10_.2.2 x a (hn9 x a)
  refine lr _ (1219, [some (.ref 1000000), some (.ref b1), some (.ref b2), some (.int x3), some (.int v), some (.int c5), some (.int c6), some (.int c7), some (.ref b)], [.int 1, .int (Int32.ofInt v10)], M10_, 16510, 102152) l_L_law_1218 rfl ?_
  refine lbF _ (¬ (Int32.ofInt v10) = 1) (1329, [some (.ref 1000000), some (.ref b1), some (.ref b2), some (.int x3), some (.int v), some (.int c5), some (.int c6), some (.int c7), some (.ref b)], [], M10_, 16510, 102152) (1222, [some (.ref 1000000), some (.ref b1), some (.ref b2), some (.int x3), some (.int v), some (.int c5), some (.int c6), some (.int c7), some (.ref b)], [], M10_, 16510, 102152) l_L_law_1219 rfl h21 ?_
  refine lr _ (1224, [some (.ref 1000000), some (.ref b1), some (.ref b2), some (.int x3), some (.int v), some (.int c5), some (.int c6), some (.int c7), some (.ref b)], [.ref b], M10_, 16510, 102152) l_L_law_1222 rfl ?_
  refine lr _ (1225, [some (.ref 1000000), some (.ref b1), some (.ref b2), some (.int x3), some (.int v), some (.int c5), some (.int c6), some (.int c7), some (.ref b)], [.int 1, .ref b], M10_, 16510, 102152) l_L_law_1224 rfl ?_
  refine lc_call [1] h22 A10_ (by omega) l_L_law_1225 rfl rfl g_X11_fareOf (by decide) (by decide) (by decide) rfl rfl (fun R9 h9 => Or.inl ⟨_, _, rfl, h9⟩) (of_v_nr _) (fun M11_ A11_ F11_ => ?_)
  show mw_Wp sc mw_Good d_L_law 400 (1228, [some (.ref 1000000), some (.ref b1), some (.ref b2), some (.int x3), some (.int v), some (.int c5), some (.int c6), some (.int c7), some (.ref b)], [.int (Int32.ofInt v11)], M11_, 16506, 102128) Qr Qx
  have A11_k0 := A10_k0.oth F11_ (Or.inl hd)
  have hn11 : ∀ x, 1000000 ≤ x → M11_.2.2.2.2.1 x = none := fun x a => F11_.2.2 x a (hn10 x a)
  refine lr _ (1229, [some (.ref 1000000), some (.ref b1), some (.ref b2), some (.int x3), some (.int v), some (.int c5), some (.int c6), some (.int c7), some (.ref b)], [.int 3, .int (Int32.ofInt v11)], M11_, 16506, 102128) l_L_law_1228 rfl ?_
  refine lr _ (1231, [some (.ref 1000000), some (.ref b1), some (.ref b2), some (.int x3), some (.int v), some (.int c5), some (.int c6), some (.int c7), some (.ref b)], [.int c7, .int 3, .int (Int32.ofInt v11)], M11_, 16506, 102128) l_L_law_1229 rfl ?_
  refine lr _ (1232, [some (.ref 1000000), some (.ref b1), some (.ref b2), some (.int x3), some (.int v), some (.int c5), some (.int c6), some (.int c7), some (.ref b)], [.int 3, .int c7, .int 3, .int (Int32.ofInt v11)], M11_, 16506, 102128) l_L_law_1231 rfl ?_
  refine lr _ (1233, [some (.ref 1000000), some (.ref b1), some (.ref b2), some (.int x3), some (.int v), some (.int c5), some (.int c6), some (.int c7), some (.ref b)], [.int (c7 + 3), .int 3, .int (Int32.ofInt v11)], M11_, 16506, 102128) l_L_law_1232 rfl ?_
  refine lr _ (1234, [some (.ref 1000000), some (.ref b1), some (.ref b2), some (.int x3), some (.int v), some (.int c5), some (.int c6), some (.int c7), some (.ref b)], [.int (3 * (c7 + 3)), .int (Int32.ofInt v11)], M11_, 16506, 102128) l_L_law_1233 rfl ?_
  refine lbF _ (¬ (Int32.ofInt v11) = (3 * (c7 + 3))) (1329, [some (.ref 1000000), some (.ref b1), some (.ref b2), some (.int x3), some (.int v), some (.int c5), some (.int c6), some (.int c7), some (.ref b)], [], M11_, 16506, 102128) (1237, [some (.ref 1000000), some (.ref b1), some (.ref b2), some (.int x3), some (.int v), some (.int c5), some (.int c6), some (.int c7), some (.ref b)], [], M11_, 16506, 102128) l_L_law_1234 rfl h23 ?_
  refine lr _ (1239, [some (.ref 1000000), some (.ref b1), some (.ref b2), some (.int x3), some (.int v), some (.int c5), some (.int c6), some (.int c7), some (.ref b)], [.ref b], M11_, 16506, 102128) l_L_law_1237 rfl ?_
  refine lr _ (1240, [some (.ref 1000000), some (.ref b1), some (.ref b2), some (.int x3), some (.int v), some (.int c5), some (.int c6), some (.int c7), some (.ref b)], [.int 0, .ref b], M11_, 16506, 102128) l_L_law_1239 rfl ?_
  refine lr _ (1241, [some (.ref 1000000), some (.ref b1), some (.ref b2), some (.int x3), some (.int v), some (.int c5), some (.int c6), some (.int c7), some (.ref b)], [.int 2, .int 0, .ref b], M11_, 16506, 102128) l_L_law_1240 rfl ?_
  refine lc_call [0, 2] h24 A11_ (by omega) l_L_law_1241 rfl rfl g_X11_sail (by decide) (by decide) (by decide) rfl rfl (fun R9 h9 => Or.inl ⟨_, _, rfl, h9⟩) (of_v_nr _) (fun M12_ A12_ F12_ => ?_)
  show mw_Wp sc mw_Good d_L_law 400 (1244, [some (.ref 1000000), some (.ref b1), some (.ref b2), some (.int x3), some (.int v), some (.int c5), some (.int c6), some (.int c7), some (.ref b)], [.int (Int32.ofInt v12)], M12_, 16502, 102104) Qr Qx
  have A12_k0 := A11_k0.oth F12_ (Or.inl hd)
  have hn12 : ∀ x, 1000000 ≤ x → M12_.2.2.2.2.1 x = none := fun x a => F12_.2.2 x a (hn11 x a)
  refine lr _ (1246, [some (.ref 1000000), some (.ref b1), some (.ref b2), some (.int x3), some (.int v), some (.int c5), some (.int c6), some (.int c7), some (.ref b)], [.int c7, .int (Int32.ofInt v12)], M12_, 16502, 102104) l_L_law_1244 rfl ?_
  refine lr _ (1247, [some (.ref 1000000), some (.ref b1), some (.ref b2), some (.int x3), some (.int v), some (.int c5), some (.int c6), some (.int c7), some (.ref b)], [.int 4, .int c7, .int (Int32.ofInt v12)], M12_, 16502, 102104) l_L_law_1246 rfl ?_
  refine lr _ (1248, [some (.ref 1000000), some (.ref b1), some (.ref b2), some (.int x3), some (.int v), some (.int c5), some (.int c6), some (.int c7), some (.ref b)], [.int (c7 + 4), .int (Int32.ofInt v12)], M12_, 16502, 102104) l_L_law_1247 rfl ?_
  refine lbF _ (¬ (Int32.ofInt v12) = (c7 + 4)) (1329, [some (.ref 1000000), some (.ref b1), some (.ref b2), some (.int x3), some (.int v), some (.int c5), some (.int c6), some (.int c7), some (.ref b)], [], M12_, 16502, 102104) (1251, [some (.ref 1000000), some (.ref b1), some (.ref b2), some (.int x3), some (.int v), some (.int c5), some (.int c6), some (.int c7), some (.ref b)], [], M12_, 16502, 102104) l_L_law_1248 rfl h25 ?_
  refine lr _ (1253, [some (.ref 1000000), some (.ref b1), some (.ref b2), some (.int x3), some (.int v), some (.int c5), some (.int c6), some (.int c7), some (.ref b)], [.ref b], M12_, 16502, 102104) l_L_law_1251 rfl ?_
  refine lr _ (1254, [some (.ref 1000000), some (.ref b1), some (.ref b2), some (.int x3), some (.int v), some (.int c5), some (.int c6), some (.int c7), some (.ref b)], [.int 3, .ref b], M12_, 16502, 102104) l_L_law_1253 rfl ?_
  refine lc_call [3] h26 A12_ (by omega) l_L_law_1254 rfl rfl g_X11_pass (by decide) (by decide) (by decide) rfl rfl (fun R9 h9 => Or.inl ⟨_, _, rfl, h9⟩) (of_v_nr _) (fun M13_ A13_ F13_ => ?_)
  show mw_Wp sc mw_Good d_L_law 400 (1257, [some (.ref 1000000), some (.ref b1), some (.ref b2), some (.int x3), some (.int v), some (.int c5), some (.int c6), some (.int c7), some (.ref b)], [.int (Int32.ofInt v13)], M13_, 16498, 102080) Qr Qx
  have A13_k0 := A12_k0.oth F13_ (Or.inl hd)
  have hn13 : ∀ x, 1000000 ≤ x → M13_.2.2.2.2.1 x = none := fun x a => F13_.2.2 x a (hn12 x a)
  refine lr _ (1258, [some (.ref 1000000), some (.ref b1), some (.ref b2), some (.int x3), some (.int v), some (.int c5), some (.int c6), some (.int c7), some (.ref b)], [.int 1, .int (Int32.ofInt v13)], M13_, 16498, 102080) l_L_law_1257 rfl ?_
  refine lbF _ (¬ (Int32.ofInt v13) = 1) (1329, [some (.ref 1000000), some (.ref b1), some (.ref b2), some (.int x3), some (.int v), some (.int c5), some (.int c6), some (.int c7), some (.ref b)], [], M13_, 16498, 102080) (1261, [some (.ref 1000000), some (.ref b1), some (.ref b2), some (.int x3), some (.int v), some (.int c5), some (.int c6), some (.int c7), some (.ref b)], [], M13_, 16498, 102080) l_L_law_1258 rfl h27 ?_
  refine lr _ (1263, [some (.ref 1000000), some (.ref b1), some (.ref b2), some (.int x3), some (.int v), some (.int c5), some (.int c6), some (.int c7), some (.ref b)], [.ref b], M13_, 16498, 102080) l_L_law_1261 rfl ?_
  refine lr _ (1264, [some (.ref 1000000), some (.ref b1), some (.ref b2), some (.int x3), some (.int v), some (.int c5), some (.int c6), some (.int c7), some (.ref b)], [.int 0, .ref b], M13_, 16498, 102080) l_L_law_1263 rfl ?_
  refine lc_call [0] h28 A13_ (by omega) l_L_law_1264 rfl rfl g_X11_land (by decide) (by decide) (by decide) rfl rfl (fun R9 h9 => Or.inl ⟨_, _, rfl, h9⟩) (of_v_nr _) (fun M14_ A14_ F14_ => ?_)
  show mw_Wp sc mw_Good d_L_law 400 (1267, [some (.ref 1000000), some (.ref b1), some (.ref b2), some (.int x3), some (.int v), some (.int c5), some (.int c6), some (.int c7), some (.ref b)], [.int (Int32.ofInt v14)], M14_, 16494, 102056) Qr Qx
  have A14_k0 := A13_k0.oth F14_ (Or.inl hd)
  have hn14 : ∀ x, 1000000 ≤ x → M14_.2.2.2.2.1 x = none := fun x a => F14_.2.2 x a (hn13 x a)
  refine lr _ (1268, [some (.ref 1000000), some (.ref b1), some (.ref b2), some (.int x3), some (.int v), some (.int c5), some (.int c6), some (.int c7), some (.ref b)], [.int 5, .int (Int32.ofInt v14)], M14_, 16494, 102056) l_L_law_1267 rfl ?_
  refine lr _ (1270, [some (.ref 1000000), some (.ref b1), some (.ref b2), some (.int x3), some (.int v), some (.int c5), some (.int c6), some (.int c7), some (.ref b)], [.int c7, .int 5, .int (Int32.ofInt v14)], M14_, 16494, 102056) l_L_law_1268 rfl ?_
  refine lr _ (1271, [some (.ref 1000000), some (.ref b1), some (.ref b2), some (.int x3), some (.int v), some (.int c5), some (.int c6), some (.int c7), some (.ref b)], [.int 3, .int c7, .int 5, .int (Int32.ofInt v14)], M14_, 16494, 102056) l_L_law_1270 rfl ?_
  refine lr _ (1272, [some (.ref 1000000), some (.ref b1), some (.ref b2), some (.int x3), some (.int v), some (.int c5), some (.int c6), some (.int c7), some (.ref b)], [.int (c7 + 3), .int 5, .int (Int32.ofInt v14)], M14_, 16494, 102056) l_L_law_1271 rfl ?_
  refine lr _ (1273, [some (.ref 1000000), some (.ref b1), some (.ref b2), some (.int x3), some (.int v), some (.int c5), some (.int c6), some (.int c7), some (.ref b)], [.int (5 * (c7 + 3)), .int (Int32.ofInt v14)], M14_, 16494, 102056) l_L_law_1272 rfl ?_
  refine lbF _ (¬ (Int32.ofInt v14) = (5 * (c7 + 3))) (1329, [some (.ref 1000000), some (.ref b1), some (.ref b2), some (.int x3), some (.int v), some (.int c5), some (.int c6), some (.int c7), some (.ref b)], [], M14_, 16494, 102056) (1276, [some (.ref 1000000), some (.ref b1), some (.ref b2), some (.int x3), some (.int v), some (.int c5), some (.int c6), some (.int c7), some (.ref b)], [], M14_, 16494, 102056) l_L_law_1273 rfl h29 ?_
  exact K _ (A14_.up (by omega) (by omega)) A14_k0 hn14
theorem w_18 {s0 : of_S} {b1 b2 b sb : Nat} {x3 v c5 c6 c7 : Int32} {cn v1 v2 : Int} {dm : UInt64} {B : Int} (O1 : Off b1 302 M w B) (O3 : Off b sb M s0 14000) (hd : b1 + 303 ≤ b) (hkn : ∀ x, 1000000 ≤ x → M.2.2.2.2.1 x = none) 
    (h1 : of_call d_X11_coins [] s0 (.inr (some (.inr (.inr (.inl cn))))) s0 0)
    (h2 : ¬ (¬ (lg_cmp (Int64.ofInt cn) (((5 : Int32).toInt64) * ((c7 + 3).toInt64))) = 0))
    (h3 : of_call d_X11_fareTotal [] s0 (of_v (.inr v1)) s0 0)
    (h4 : ¬ (¬ (Int32.ofInt v1) = (5 * (c7 + 3))))
    (h5 : of_call d_X11_moonCount [] s0 (of_v (.inr v2)) s0 0)
    (h6 : ¬ (¬ (Int32.ofInt v2) = 2))
    (h7 : of_call d_X11_meanPhase [] s0 (.inr (some (.inr (.inr (.inr (.inl dm)))))) s0 0)
    (h8 : (Op.cmpValue (FP.dcmp dm 4609434218613702656) .l) = 0)
    (K : ∀ (M' : mw_Mem), Off b sb M' s0 14000 → Off b1 302 M' w B → (∀ x, 1000000 ≤ x → M'.2.2.2.2.1 x = none) → mw_Wp sc mw_Good d_L_law 400 (1331, [some (.ref 1000000), some (.ref b1), some (.ref b2), some (.int x3), some (.int v), some (.int c5), some (.int c6), some (.int c7), some (.ref b)], [], M', 16478, 101960) Qr Qx) : mw_Wp sc mw_Good d_L_law 400 (1276, [some (.ref 1000000), some (.ref b1), some (.ref b2), some (.int x3), some (.int v), some (.int c5), some (.int c6), some (.int c7), some (.ref b)], [], M, 16494, 102056) Qr Qx := by
  refine lr _ (1278, [some (.ref 1000000), some (.ref b1), some (.ref b2), some (.int x3), some (.int v), some (.int c5), some (.int c6), some (.int c7), some (.ref b)], [.ref b], M, 16494, 102056) l_L_law_1276 rfl ?_
  refine lc_call [] h1 O3 (by omega) l_L_law_1278 rfl rfl g_X11_coins (by decide) (by decide) (by decide) rfl rfl (fun R9 h9 => Or.inl ⟨_, _, rfl, h9⟩) True.intro (fun M1_ A1_ F1_ => ?_)
  show mw_Wp sc mw_Good d_L_law 400 (1281, [some (.ref 1000000), some (.ref b1), some (.ref b2), some (.int x3), some (.int v), some (.int c5), some (.int c6), some (.int c7), some (.ref b)], [.long (Int64.ofInt cn)], M1_, 16490, 102032) Qr Qx
  have A1_k0 := O1.oth F1_ (Or.inl hd)
  have hn1 : ∀ x, 1000000 ≤ x → M1_.2.2.2.2.1 x = none := fun x a => F1_.2.2 x a (hkn x a)
  refine lr _ (1284, [some (.ref 1000000), some (.ref b1), some (.ref b2), some (.int x3), some (.int v), some (.int c5), some (.int c6), some (.int c7), some (.ref b)], [.long ((5 : Int32).toInt64), .long (Int64.ofInt cn)], M1_, 16490, 102032) l_L_law_1281 rfl ?_
  refine lr _ (1286, [some (.ref 1000000), some (.ref b1), some (.ref b2), some (.int x3), some (.int v), some (.int c5), some (.int c6), some (.int c7), some (.ref b)], [.int c7, .long ((5 : Int32).toInt64), .long (Int64.ofInt cn)], M1_, 16490, 102032) l_L_law_1284 rfl ?_
  refine lr _ (1287, [some (.ref 1000000), some (.ref b1), some (.ref b2), some (.int x3), some (.int v), some (.int c5), some (.int c6), some (.int c7), some (.ref b)], [.int 3, .int c7, .long ((5 : Int32).toInt64), .long (Int64.ofInt cn)], M1_, 16490, 102032) l_L_law_1286 rfl ?_
  refine lr _ (1288, [some (.ref 1000000), some (.ref b1), some (.ref b2), some (.int x3), some (.int v), some (.int c5), some (.int c6), some (.int c7), some (.ref b)], [.int (c7 + 3), .long ((5 : Int32).toInt64), .long (Int64.ofInt cn)], M1_, 16490, 102032) l_L_law_1287 rfl ?_
  refine lr _ (1289, [some (.ref 1000000), some (.ref b1), some (.ref b2), some (.int x3), some (.int v), some (.int c5), some (.int c6), some (.int c7), some (.ref b)], [.long ((c7 + 3).toInt64), .long ((5 : Int32).toInt64), .long (Int64.ofInt cn)], M1_, 16490, 102032) l_L_law_1288 rfl ?_
  refine lr _ (1290, [some (.ref 1000000), some (.ref b1), some (.ref b2), some (.int x3), some (.int v), some (.int c5), some (.int c6), some (.int c7), some (.ref b)], [.long (((5 : Int32).toInt64) * ((c7 + 3).toInt64)), .long (Int64.ofInt cn)], M1_, 16490, 102032) l_L_law_1289 rfl ?_
  refine lr _ (1291, [some (.ref 1000000), some (.ref b1), some (.ref b2), some (.int x3), some (.int v), some (.int c5), some (.int c6), some (.int c7), some (.ref b)], [.int (lg_cmp (Int64.ofInt cn) (((5 : Int32).toInt64) * ((c7 + 3).toInt64)))], M1_, 16490, 102032) l_L_law_1290 rfl ?_
  refine lbF _ (¬ (lg_cmp (Int64.ofInt cn) (((5 : Int32).toInt64) * ((c7 + 3).toInt64))) = 0) (1329, [some (.ref 1000000), some (.ref b1), some (.ref b2), some (.int x3), some (.int v), some (.int c5), some (.int c6), some (.int c7), some (.ref b)], [], M1_, 16490, 102032) (1294, [some (.ref 1000000), some (.ref b1), some (.ref b2), some (.int x3), some (.int v), some (.int c5), some (.int c6), some (.int c7), some (.ref b)], [], M1_, 16490, 102032) l_L_law_1291 rfl h2 ?_
  refine lr _ (1296, [some (.ref 1000000), some (.ref b1), some (.ref b2), some (.int x3), some (.int v), some (.int c5), some (.int c6), some (.int c7), some (.ref b)], [.ref b], M1_, 16490, 102032) l_L_law_1294 rfl ?_
  refine lc_call [] h3 A1_ (by omega) l_L_law_1296 rfl rfl g_X11_fareTotal (by decide) (by decide) (by decide) rfl rfl (fun R9 h9 => Or.inl ⟨_, _, rfl, h9⟩) (of_v_nr _) (fun M2_ A2_ F2_ => ?_)
  show mw_Wp sc mw_Good d_L_law 400 (1299, [some (.ref 1000000), some (.ref b1), some (.ref b2), some (.int x3), some (.int v), some (.int c5), some (.int c6), some (.int c7), some (.ref b)], [.int (Int32.ofInt v1)], M2_, 16486, 102008) Qr Qx
  have A2_k0 := A1_k0.oth F2_ (Or.inl hd)
  have hn2 : ∀ x, 1000000 ≤ x → M2_.2.2.2.2.1 x = none := fun x a => F2_.2.2 x a (hn1 x a)
  refine lr _ (1300, [some (.ref 1000000), some (.ref b1), some (.ref b2), some (.int x3), some (.int v), some (.int c5), some (.int c6), some (.int c7), some (.ref b)], [.int 5, .int (Int32.ofInt v1)], M2_, 16486, 102008) l_L_law_1299 rfl ?_
  refine lr _ (1302, [some (.ref 1000000), some (.ref b1), some (.ref b2), some (.int x3), some (.int v), some (.int c5), some (.int c6), some (.int c7), some (.ref b)], [.int c7, .int 5, .int (Int32.ofInt v1)], M2_, 16486, 102008) l_L_law_1300 rfl ?_
  refine lr _ (1303, [some (.ref 1000000), some (.ref b1), some (.ref b2), some (.int x3), some (.int v), some (.int c5), some (.int c6), some (.int c7), some (.ref b)], [.int 3, .int c7, .int 5, .int (Int32.ofInt v1)], M2_, 16486, 102008) l_L_law_1302 rfl ?_
  refine lr _ (1304, [some (.ref 1000000), some (.ref b1), some (.ref b2), some (.int x3), some (.int v), some (.int c5), some (.int c6), some (.int c7), some (.ref b)], [.int (c7 + 3), .int 5, .int (Int32.ofInt v1)], M2_, 16486, 102008) l_L_law_1303 rfl ?_
  refine lr _ (1305, [some (.ref 1000000), some (.ref b1), some (.ref b2), some (.int x3), some (.int v), some (.int c5), some (.int c6), some (.int c7), some (.ref b)], [.int (5 * (c7 + 3)), .int (Int32.ofInt v1)], M2_, 16486, 102008) l_L_law_1304 rfl ?_
  refine lbF _ (¬ (Int32.ofInt v1) = (5 * (c7 + 3))) (1329, [some (.ref 1000000), some (.ref b1), some (.ref b2), some (.int x3), some (.int v), some (.int c5), some (.int c6), some (.int c7), some (.ref b)], [], M2_, 16486, 102008) (1308, [some (.ref 1000000), some (.ref b1), some (.ref b2), some (.int x3), some (.int v), some (.int c5), some (.int c6), some (.int c7), some (.ref b)], [], M2_, 16486, 102008) l_L_law_1305 rfl h4 ?_
  refine lr _ (1310, [some (.ref 1000000), some (.ref b1), some (.ref b2), some (.int x3), some (.int v), some (.int c5), some (.int c6), some (.int c7), some (.ref b)], [.ref b], M2_, 16486, 102008) l_L_law_1308 rfl ?_
  refine lc_call [] h5 A2_ (by omega) l_L_law_1310 rfl rfl g_X11_moonCount (by decide) (by decide) (by decide) rfl rfl (fun R9 h9 => Or.inl ⟨_, _, rfl, h9⟩) (of_v_nr _) (fun M3_ A3_ F3_ => ?_)
  show mw_Wp sc mw_Good d_L_law 400 (1313, [some (.ref 1000000), some (.ref b1), some (.ref b2), some (.int x3), some (.int v), some (.int c5), some (.int c6), some (.int c7), some (.ref b)], [.int (Int32.ofInt v2)], M3_, 16482, 101984) Qr Qx
  have A3_k0 := A2_k0.oth F3_ (Or.inl hd)
  have hn3 : ∀ x, 1000000 ≤ x → M3_.2.2.2.2.1 x = none := fun x a => F3_.2.2 x a (hn2 x a)
  refine lr _ (1314, [some (.ref 1000000), some (.ref b1), some (.ref b2), some (.int x3), some (.int v), some (.int c5), some (.int c6), some (.int c7), some (.ref b)], [.int 2, .int (Int32.ofInt v2)], M3_, 16482, 101984) l_L_law_1313 rfl ?_
  refine lbF _ (¬ (Int32.ofInt v2) = 2) (1329, [some (.ref 1000000), some (.ref b1), some (.ref b2), some (.int x3), some (.int v), some (.int c5), some (.int c6), some (.int c7), some (.ref b)], [], M3_, 16482, 101984) (1317, [some (.ref 1000000), some (.ref b1), some (.ref b2), some (.int x3), some (.int v), some (.int c5), some (.int c6), some (.int c7), some (.ref b)], [], M3_, 16482, 101984) l_L_law_1314 rfl h6 ?_
  refine lr _ (1319, [some (.ref 1000000), some (.ref b1), some (.ref b2), some (.int x3), some (.int v), some (.int c5), some (.int c6), some (.int c7), some (.ref b)], [.ref b], M3_, 16482, 101984) l_L_law_1317 rfl ?_
  refine lc_call [] h7 A3_ (by omega) l_L_law_1319 rfl rfl g_X11_meanPhase (by decide) (by decide) (by decide) rfl rfl (fun R9 h9 => Or.inl ⟨_, _, rfl, h9⟩) True.intro (fun M4_ A4_ F4_ => ?_)
  show mw_Wp sc mw_Good d_L_law 400 (1322, [some (.ref 1000000), some (.ref b1), some (.ref b2), some (.int x3), some (.int v), some (.int c5), some (.int c6), some (.int c7), some (.ref b)], [.double dm], M4_, 16478, 101960) Qr Qx
  have A4_k0 := A3_k0.oth F4_ (Or.inl hd)
  have hn4 : ∀ x, 1000000 ≤ x → M4_.2.2.2.2.1 x = none := fun x a => F4_.2.2 x a (hn3 x a)
  refine lr _ (1325, [some (.ref 1000000), some (.ref b1), some (.ref b2), some (.int x3), some (.int v), some (.int c5), some (.int c6), some (.int c7), some (.ref b)], [.double 4609434218613702656, .double dm], M4_, 16478, 101960) l_L_law_1322 rfl ?_
  refine lr _ (1326, [some (.ref 1000000), some (.ref b1), some (.ref b2), some (.int x3), some (.int v), some (.int c5), some (.int c6), some (.int c7), some (.ref b)], [.int (Op.cmpValue (FP.dcmp dm 4609434218613702656) .l)], M4_, 16478, 101960) l_L_law_1325 rfl ?_
  refine lbT _ ((Op.cmpValue (FP.dcmp dm 4609434218613702656) .l) = 0) (1331, [some (.ref 1000000), some (.ref b1), some (.ref b2), some (.int x3), some (.int v), some (.int c5), some (.int c6), some (.int c7), some (.ref b)], [], M4_, 16478, 101960) (1329, [some (.ref 1000000), some (.ref b1), some (.ref b2), some (.int x3), some (.int v), some (.int c5), some (.int c6), some (.int c7), some (.ref b)], [], M4_, 16478, 101960) l_L_law_1326 rfl h8 ?_
  exact K _ (A4_.up (by omega) (by omega)) A4_k0 hn4
end
