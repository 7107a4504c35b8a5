/-! the law walked: fares, ranks, loads, refusals -/
section
variable {sc : Nat × (Nat → Int32)} {M : mw_Mem} {Qr : Option Value → mw_Mem → Prop} {Qx : Nat → mw_Mem → Prop} {w : of_S}
theorem w_13 {s0 s1 : of_S} {b1 b2 b : Nat} {x3 v c5 c6 c7 : Int32} {v1 v2 v3 v4 v5 v6 v7 v8 v9 v10 v11 : Int} {B : Int} (O1 : Off b1 302 M w B) (O3 : Off b 302 M s0 6000) (hd : b1 + 303 ≤ b) (hkn : ∀ x, 1000000 ≤ x → M.2.2.2.2.1 x = none) 
    (h1 : of_call d_X11_run [] s0 (of_v (.inr v1)) s1 2200)
    (h2 : ¬ (¬ (Int32.ofInt v1) = 4))
    (h3 : of_call d_X11_fareOf ([(0 : Int32)].map (fun v => (.inl v.toInt : nw_V))) s1 (of_v (.inr v2)) s1 0)
    (h4 : ¬ (¬ (Int32.ofInt v2) = (5 * (c7 + 3))))
    (h5 : of_call d_X11_fareOf ([(1 : Int32)].map (fun v => (.inl v.toInt : nw_V))) s1 (of_v (.inr v3)) s1 0)
    (h6 : ¬ (¬ (Int32.ofInt v3) = (3 * (c7 + 3))))
    (h7 : of_call d_X11_fareOf ([(2 : Int32)].map (fun v => (.inl v.toInt : nw_V))) s1 (of_v (.inr v4)) s1 0)
    (h8 : ¬ (¬ (Int32.ofInt v4) = (2 * c7)))
    (h9 : of_call d_X11_moonAtRank ([(0 : Int32)].map (fun v => (.inl v.toInt : nw_V))) s1 (of_v (.inr v5)) s1 0)
    (h10 : ¬ (¬ (Int32.ofInt v5) = 0))
    (h11 : of_call d_X11_moonAtRank ([(2 : Int32)].map (fun v => (.inl v.toInt : nw_V))) s1 (of_v (.inr v6)) s1 0)
    (h12 : ¬ (¬ (Int32.ofInt v6) = 2))
    (h13 : of_call d_X11_countBelow ([(3 * (c7 + 3) : Int32)].map (fun v => (.inl v.toInt : nw_V))) s1 (of_v (.inr v7)) s1 0)
    (h14 : ¬ (¬ (Int32.ofInt v7) = 1))
    (h15 : of_call d_X11_countBelowByAsking ([(3 * (c7 + 3) : Int32)].map (fun v => (.inl v.toInt : nw_V))) s1 (of_v (.inr v8)) s1 0)
    (h16 : ¬ (¬ (Int32.ofInt v8) = 1))
    (h17 : of_call d_X11_isStranded ([(0 : Int32)].map (fun v => (.inl v.toInt : nw_V))) s1 (of_v (.inr v9)) s1 0)
    (h18 : ¬ ((Int32.ofInt v9) = 0))
    (h19 : of_call d_X11_bestLoad ([(0 : Int32)].map (fun v => (.inl v.toInt : nw_V))) s1 (of_v (.inr v10)) s1 0)
    (h20 : ¬ (¬ (Int32.ofInt v10) = (8 * (c7 + 3))))
    (h21 : of_call d_X11_bestLoadByTable ([(0 : Int32)].map (fun v => (.inl v.toInt : nw_V))) s1 (of_v (.inr v11)) s1 0)
    (h22 : ¬ (¬ (Int32.ofInt v11) = (8 * (c7 + 3))))
    (K : ∀ (M' : mw_Mem), Off b 302 M' s1 9000 → Off b1 302 M' w B → (∀ x, 1000000 ≤ x → M'.2.2.2.2.1 x = none) → mw_Wp sc mw_Good d_L_law 400 (787, [some (.ref 1000000), some (.ref b1), some (.ref b2), some (.int x3), some (.int v), some (.int c5), some (.int c6), some (.int c7), some (.ref b)], [], M', 17068, 109876) Qr Qx) : mw_Wp sc mw_Good d_L_law 400 (645, [some (.ref 1000000), some (.ref b1), some (.ref b2), some (.int x3), some (.int v), some (.int c5), some (.int c6), some (.int c7), some (.ref b)], [], M, 17112, 110140) Qr Qx := by
  refine lr _ (647, [some (.ref 1000000), some (.ref b1), some (.ref b2), some (.int x3), some (.int v), some (.int c5), some (.int c6), some (.int c7), some (.ref b)], [.ref b], M, 17112, 110140) l_L_law_645 rfl ?_
  refine lc_call [] h1 O3 (by omega) l_L_law_647 rfl rfl g_X11_run (by decide) (by decide) (by decide) rfl rfl (fun R9 h9 => Or.inl ⟨_, _, rfl, h9⟩) (of_v_nr _) (fun M1_ A1_ F1_ => ?_)
  show mw_Wp sc mw_Good d_L_law 400 (650, [some (.ref 1000000), some (.ref b1), some (.ref b2), some (.int x3), some (.int v), some (.int c5), some (.int c6), some (.int c7), some (.ref b)], [.int (Int32.ofInt v1)], M1_, 17108, 110116) Qr Qx
  have A1_k0 := O1.oth F1_ (Or.inl hd)
  have hn1 : ∀ x, 1000000 ≤ x → M1_.2.2.2.2.1 x = none := fun x a => F1_.2.2 x a (hkn x a)
  refine lr _ (651, [some (.ref 1000000), some (.ref b1), some (.ref b2), some (.int x3), some (.int v), some (.int c5), some (.int c6), some (.int c7), some (.ref b)], [.int 4, .int (Int32.ofInt v1)], M1_, 17108, 110116) l_L_law_650 rfl ?_
  refine lbF _ (¬ (Int32.ofInt v1) = 4) (870, [some (.ref 1000000), some (.ref b1), some (.ref b2), some (.int x3), some (.int v), some (.int c5), some (.int c6), some (.int c7), some (.ref b)], [], M1_, 17108, 110116) (654, [some (.ref 1000000), some (.ref b1), some (.ref b2), some (.int x3), some (.int v), some (.int c5), some (.int c6), some (.int c7), some (.ref b)], [], M1_, 17108, 110116) l_L_law_651 rfl h2 ?_
  refine lr _ (656, [some (.ref 1000000), some (.ref b1), some (.ref b2), some (.int x3), some (.int v), some (.int c5), some (.int c6), some (.int c7), some (.ref b)], [.ref b], M1_, 17108, 110116) l_L_law_654 rfl ?_
  refine lr _ (657, [some (.ref 1000000), some (.ref b1), some (.ref b2), some (.int x3), some (.int v), some (.int c5), some (.int c6), some (.int c7), some (.ref b)], [.int 0, .ref b], M1_, 17108, 110116) l_L_law_656 rfl ?_
  refine lc_call [0] h3 A1_ (by omega) l_L_law_657 rfl rfl g_X11_fareOf (by decide) (by decide) (by decide) rfl rfl (fun R9 h9 => Or.inl ⟨_, _, rfl, h9⟩) (of_v_nr _) (fun M2_ A2_ F2_ => ?_)
  show mw_Wp sc mw_Good d_L_law 400 (660, [some (.ref 1000000), some (.ref b1), some (.ref b2), some (.int x3), some (.int v), some (.int c5), some (.int c6), some (.int c7), some (.ref b)], [.int (Int32.ofInt v2)], M2_, 17104, 110092) Qr Qx
  have A2_k0 := A1_k0.oth F2_ (Or.inl hd)
  have hn2 : ∀ x, 1000000 ≤ x → M2_.2.2.2.2.1 x = none := fun x a => F2_.2.2 x a (hn1 x a)
  refine lr _ (661, [some (.ref 1000000), some (.ref b1), some (.ref b2), some (.int x3), some (.int v), some (.int c5), some (.int c6), some (.int c7), some (.ref b)], [.int 5, .int (Int32.ofInt v2)], M2_, 17104, 110092) l_L_law_660 rfl ?_
  refine lr _ (663, [some (.ref 1000000), some (.ref b1), some (.ref b2), some (.int x3), some (.int v), some (.int c5), some (.int c6), some (.int c7), some (.ref b)], [.int c7, .int 5, .int (Int32.ofInt v2)], M2_, 17104, 110092) l_L_law_661 rfl ?_
  refine lr _ (664, [some (.ref 1000000), some (.ref b1), some (.ref b2), some (.int x3), some (.int v), some (.int c5), some (.int c6), some (.int c7), some (.ref b)], [.int 3, .int c7, .int 5, .int (Int32.ofInt v2)], M2_, 17104, 110092) l_L_law_663 rfl ?_
  refine lr _ (665, [some (.ref 1000000), some (.ref b1), some (.ref b2), some (.int x3), some (.int v), some (.int c5), some (.int c6), some (.int c7), some (.ref b)], [.int (c7 + 3), .int 5, .int (Int32.ofInt v2)], M2_, 17104, 110092) l_L_law_664 rfl ?_
  refine lr _ (666, [some (.ref 1000000), some (.ref b1), some (.ref b2), some (.int x3), some (.int v), some (.int c5), some (.int c6), some (.int c7), some (.ref b)], [.int (5 * (c7 + 3)), .int (Int32.ofInt v2)], M2_, 17104, 110092) l_L_law_665 rfl ?_
  refine lbF _ (¬ (Int32.ofInt v2) = (5 * (c7 + 3))) (870, [some (.ref 1000000), some (.ref b1), some (.ref b2), some (.int x3), some (.int v), some (.int c5), some (.int c6), some (.int c7), some (.ref b)], [], M2_, 17104, 110092) (669, [some (.ref 1000000), some (.ref b1), some (.ref b2), some (.int x3), some (.int v), some (.int c5), some (.int c6), some (.int c7), some (.ref b)], [], M2_, 17104, 110092) l_L_law_666 rfl h4 ?_
  refine lr _ (671, [some (.ref 1000000), some (.ref b1), some (.ref b2), some (.int x3), some (.int v), some (.int c5), some (.int c6), some (.int c7), some (.ref b)], [.ref b], M2_, 17104, 110092) l_L_law_669 rfl ?_
  refine lr _ (672, [some (.ref 1000000), some (.ref b1), some (.ref b2), some (.int x3), some (.int v), some (.int c5), some (.int c6), some (.int c7), some (.ref b)], [.int 1, .ref b], M2_, 17104, 110092) l_L_law_671 rfl ?_
  refine lc_call [1] h5 A2_ (by omega) l_L_law_672 rfl rfl g_X11_fareOf (by decide) (by decide) (by decide) rfl rfl (fun R9 h9 => Or.inl ⟨_, _, rfl, h9⟩) (of_v_nr _) (fun M3_ A3_ F3_ => ?_)
  show mw_Wp sc mw_Good d_L_law 400 (675, [some (.ref 1000000), some (.ref b1), some (.ref b2), some (.int x3), some (.int v), some (.int c5), some (.int c6), some (.int c7), some (.ref b)], [.int (Int32.ofInt v3)], M3_, 17100, 110068) Qr Qx
  have A3_k0 := A2_k0.oth F3_ (Or.inl hd)
  have hn3 : ∀ x, 1000000 ≤ x → M3_.2.2.2.2.1 x = none := fun x a => F3_.2.2 x a (hn2 x a)
  refine lr _ (676, [some (.ref 1000000), some (.ref b1), some (.ref b2), some (.int x3), some (.int v), some (.int c5), some (.int c6), some (.int c7), some (.ref b)], [.int 3, .int (Int32.ofInt v3)], M3_, 17100, 110068) l_L_law_675 rfl ?_
  refine lr _ (678, [some (.ref 1000000), some (.ref b1), some (.ref b2), some (.int x3), some (.int v), some (.int c5), some (.int c6), some (.int c7), some (.ref b)], [.int c7, .int 3, .int (Int32.ofInt v3)], M3_, 17100, 110068) l_L_law_676 rfl ?_
  refine lr _ (679, [some (.ref 1000000), some (.ref b1), some (.ref b2), some (.int x3), some (.int v), some (.int c5), some (.int c6), some (.int c7), some (.ref b)], [.int 3, .int c7, .int 3, .int (Int32.ofInt v3)], M3_, 17100, 110068) l_L_law_678 rfl ?_
  refine lr _ (680, [some (.ref 1000000), some (.ref b1), some (.ref b2), some (.int x3), some (.int v), some (.int c5), some (.int c6), some (.int c7), some (.ref b)], [.int (c7 + 3), .int 3, .int (Int32.ofInt v3)], M3_, 17100, 110068) l_L_law_679 rfl ?_
  refine lr _ (681, [some (.ref 1000000), some (.ref b1), some (.ref b2), some (.int x3), some (.int v), some (.int c5), some (.int c6), some (.int c7), some (.ref b)], [.int (3 * (c7 + 3)), .int (Int32.ofInt v3)], M3_, 17100, 110068) l_L_law_680 rfl ?_
  refine lbF _ (¬ (Int32.ofInt v3) = (3 * (c7 + 3))) (870, [some (.ref 1000000), some (.ref b1), some (.ref b2), some (.int x3), some (.int v), some (.int c5), some (.int c6), some (.int c7), some (.ref b)], [], M3_, 17100, 110068) (684, [some (.ref 1000000), some (.ref b1), some (.ref b2), some (.int x3), some (.int v), some (.int c5), some (.int c6), some (.int c7), some (.ref b)], [], M3_, 17100, 110068) l_L_law_681 rfl h6 ?_
  refine lr _ (686, [some (.ref 1000000), some (.ref b1), some (.ref b2), some (.int x3), some (.int v), some (.int c5), some (.int c6), some (.int c7), some (.ref b)], [.ref b], M3_, 17100, 110068) l_L_law_684 rfl ?_
  refine lr _ (687, [some (.ref 1000000), some (.ref b1), some (.ref b2), some (.int x3), some (.int v), some (.int c5), some (.int c6), some (.int c7), some (.ref b)], [.int 2, .ref b], M3_, 17100, 110068) l_L_law_686 rfl ?_
  refine lc_call [2] h7 A3_ (by omega) l_L_law_687 rfl rfl g_X11_fareOf (by decide) (by decide) (by decide) rfl rfl (fun R9 h9 => Or.inl ⟨_, _, rfl, h9⟩) (of_v_nr _) (fun M4_ A4_ F4_ => ?_)
  show mw_Wp sc mw_Good d_L_law 400 (690, [some (.ref 1000000), some (.ref b1), some (.ref b2), some (.int x3), some (.int v), some (.int c5), some (.int c6), some (.int c7), some (.ref b)], [.int (Int32.ofInt v4)], M4_, 17096, 110044) Qr Qx
  have A4_k0 := A3_k0.oth F4_ (Or.inl hd)
  have hn4 : ∀ x, 1000000 ≤ x → M4_.2.2.2.2.1 x = none := fun x a => F4_.2.2 x a (hn3 x a)
  refine lr _ (691, [some (.ref 1000000), some (.ref b1), some (.ref b2), some (.int x3), some (.int v), some (.int c5), some (.int c6), some (.int c7), some (.ref b)], [.int 2, .int (Int32.ofInt v4)], M4_, 17096, 110044) l_L_law_690 rfl ?_
  refine lr _ (693, [some (.ref 1000000), some (.ref b1), some (.ref b2), some (.int x3), some (.int v), some (.int c5), some (.int c6), some (.int c7), some (.ref b)], [.int c7, .int 2, .int (Int32.ofInt v4)], M4_, 17096, 110044) l_L_law_691 rfl ?_
  refine lr _ (694, [some (.ref 1000000), some (.ref b1), some (.ref b2), some (.int x3), some (.int v), some (.int c5), some (.int c6), some (.int c7), some (.ref b)], [.int (2 * c7), .int (Int32.ofInt v4)], M4_, 17096, 110044) l_L_law_693 rfl ?_
  refine lbF _ (¬ (Int32.ofInt v4) = (2 * c7)) (870, [some (.ref 1000000), some (.ref b1), some (.ref b2), some (.int x3), some (.int v), some (.int c5), some (.int c6), some (.int c7), some (.ref b)], [], M4_, 17096, 110044) (697, [some (.ref 1000000), some (.ref b1), some (.ref b2), some (.int x3), some (.int v), some (.int c5), some (.int c6), some (.int c7), some (.ref b)], [], M4_, 17096, 110044) l_L_law_694 rfl h8 ?_
  refine lr _ (699, [some (.ref 1000000), some (.ref b1), some (.ref b2), some (.int x3), some (.int v), some (.int c5), some (.int c6), some (.int c7), some (.ref b)], [.ref b], M4_, 17096, 110044) l_L_law_697 rfl ?_
  refine lr _ (700, [some (.ref 1000000), some (.ref b1), some (.ref b2), some (.int x3), some (.int v), some (.int c5), some (.int c6), some (.int c7), some (.ref b)], [.int 0, .ref b], M4_, 17096, 110044) l_L_law_699 rfl ?_
  refine lc_call [0] h9 A4_ (by omega) l_L_law_700 rfl rfl g_X11_moonAtRank (by decide) (by decide) (by decide) rfl rfl (fun R9 h9 => Or.inl ⟨_, _, rfl, h9⟩) (of_v_nr _) (fun M5_ A5_ F5_ => ?_)
  show mw_Wp sc mw_Good d_L_law 400 (703, [some (.ref 1000000), some (.ref b1), some (.ref b2), some (.int x3), some (.int v), some (.int c5), some (.int c6), some (.int c7), some (.ref b)], [.int (Int32.ofInt v5)], M5_, 17092, 110020) Qr Qx
  have A5_k0 := A4_k0.oth F5_ (Or.inl hd)
  have hn5 : ∀ x, 1000000 ≤ x → M5_.2.2.2.2.1 x = none := fun x a => F5_.2.2 x a (hn4 x a)
  refine lbF _ (¬ (Int32.ofInt v5) = 0) (870, [some (.ref 1000000), some (.ref b1), some (.ref b2), some (.int x3), some (.int v), some (.int c5), some (.int c6), some (.int c7), some (.ref b)], [], M5_, 17092, 110020) (706, [some (.ref 1000000), some (.ref b1), some (.ref b2), some (.int x3), some (.int v), some (.int c5), some (.int c6), some (.int c7), some (.ref b)], [], M5_, 17092, 110020) l_L_law_703 rfl h10 ?_
  refine lr _ (708, [some (.ref 1000000), some (.ref b1), some (.ref b2), some (.int x3), some (.int v), some (.int c5), some (.int c6), some (.int c7), some (.ref b)], [.ref b], M5_, 17092, 110020) l_L_law_706 rfl ?_
  refine lr _ (709, [some (.ref 1000000), some (.ref b1), some (.ref b2), some (.int x3), some (.int v), some (.int c5), some (.int c6), some (.int c7), some (.ref b)], [.int 2, .ref b], M5_, 17092, 110020) l_L_law_708 rfl ?_
  refine lc_call [2] h11 A5_ (by omega) l_L_law_709 rfl rfl g_X11_moonAtRank (by decide) (by decide) (by decide) rfl rfl (fun R9 h9 => Or.inl ⟨_, _, rfl, h9⟩) (of_v_nr _) (fun M6_ A6_ F6_ => ?_)
  show mw_Wp sc mw_Good d_L_law 400 (712, [some (.ref 1000000), some (.ref b1), some (.ref b2), some (.int x3), some (.int v), some (.int c5), some (.int c6), some (.int c7), some (.ref b)], [.int (Int32.ofInt v6)], M6_, 17088, 109996) Qr Qx
  have A6_k0 := A5_k0.oth F6_ (Or.inl hd)
  have hn6 : ∀ x, 1000000 ≤ x → M6_.2.2.2.2.1 x = none := fun x a => F6_.2.2 x a (hn5 x a)
  refine lr _ (713, [some (.ref 1000000), some (.ref b1), some (.ref b2), some (.int x3), some (.int v), some (.int c5), some (.int c6), some (.int c7), some (.ref b)], [.int 2, .int (Int32.ofInt v6)], M6_, 17088, 109996) l_L_law_712 rfl ?_
  refine lbF _ (¬ (Int32.ofInt v6) = 2) (870, [some (.ref 1000000), some (.ref b1), some (.ref b2), some (.int x3), some (.int v), some (.int c5), some (.int c6), some (.int c7), some (.ref b)], [], M6_, 17088, 109996) (716, [some (.ref 1000000), some (.ref b1), some (.ref b2), some (.int x3), some (.int v), some (.int c5), some (.int c6), some (.int c7), some (.ref b)], [], M6_, 17088, 109996) l_L_law_713 rfl h12 ?_
  refine lr _ (718, [some (.ref 1000000), some (.ref b1), some (.ref b2), some (.int x3), some (.int v), some (.int c5), some (.int c6), some (.int c7), some (.ref b)], [.ref b], M6_, 17088, 109996) l_L_law_716 rfl ?_
  refine lr _ (719, [some (.ref 1000000), some (.ref b1), some (.ref b2), some (.int x3), some (.int v), some (.int c5), some (.int c6), some (.int c7), some (.ref b)], [.int 3, .ref b], M6_, 17088, 109996) l_L_law_718 rfl ?_
  refine lr _ (721, [some (.ref 1000000), some (.ref b1), some (.ref b2), some (.int x3), some (.int v), some (.int c5), some (.int c6), some (.int c7), some (.ref b)], [.int c7, .int 3, .ref b], M6_, 17088, 109996) l_L_law_719 rfl ?_
  refine lr _ (722, [some (.ref 1000000), some (.ref b1), some (.ref b2), some (.int x3), some (.int v), some (.int c5), some (.int c6), some (.int c7), some (.ref b)], [.int 3, .int c7, .int 3, .ref b], M6_, 17088, 109996) l_L_law_721 rfl ?_
  refine lr _ (723, [some (.ref 1000000), some (.ref b1), some (.ref b2), some (.int x3), some (.int v), some (.int c5), some (.int c6), some (.int c7), some (.ref b)], [.int (c7 + 3), .int 3, .ref b], M6_, 17088, 109996) l_L_law_722 rfl ?_
  refine lr _ (724, [some (.ref 1000000), some (.ref b1), some (.ref b2), some (.int x3), some (.int v), some (.int c5), some (.int c6), some (.int c7), some (.ref b)], [.int (3 * (c7 + 3)), .ref b], M6_, 17088, 109996) l_L_law_723 rfl ?_
  refine lc_call [3 * (c7 + 3)] h13 A6_ (by omega) l_L_law_724 rfl rfl g_X11_countBelow (by decide) (by decide) (by decide) rfl rfl (fun R9 h9 => Or.inl ⟨_, _, rfl, h9⟩) (of_v_nr _) (fun M7_ A7_ F7_ => ?_)
  show mw_Wp sc mw_Good d_L_law 400 (727, [some (.ref 1000000), some (.ref b1), some (.ref b2), some (.int x3), some (.int v), some (.int c5), some (.int c6), some (.int c7), some (.ref b)], [.int (Int32.ofInt v7)], M7_, 17084, 109972) Qr Qx
  have A7_k0 := A6_k0.oth F7_ (Or.inl hd)
  have hn7 : ∀ x, 1000000 ≤ x → M7_.2.2.2.2.1 x = none := fun x a => F7_.2.2 x a (hn6 x a)
  refine lr _ (728, [some (.ref 1000000), some (.ref b1), some (.ref b2), some (.int x3), some (.int v), some (.int c5), some (.int c6), some (.int c7), some (.ref b)], [.int 1, .int (Int32.ofInt v7)], M7_, 17084, 109972) l_L_law_727 rfl ?_
  refine lbF _ (¬ (Int32.ofInt v7) = 1) (870, [some (.ref 1000000), some (.ref b1), some (.ref b2), some (.int x3), some (.int v), some (.int c5), some (.int c6), some (.int c7), some (.ref b)], [], M7_, 17084, 109972) (731, [some (.ref 1000000), some (.ref b1), some (.ref b2), some (.int x3), some (.int v), some (.int c5), some (.int c6), some (.int c7), some (.ref b)], [], M7_, 17084, 109972) l_L_law_728 rfl h14 ?_
  refine lr _ (733, [some (.ref 1000000), some (.ref b1), some (.ref b2), some (.int x3), some (.int v), some (.int c5), some (.int c6), some (.int c7), some (.ref b)], [.ref b], M7_, 17084, 109972) l_L_law_731 rfl ?_
  refine lr _ (734, [some (.ref 1000000), some (.ref b1), some (.ref b2), some (.int x3), some (.int v), some (.int c5), some (.int c6), some (.int c7), some (.ref b)], [.int 3, .ref b], M7_, 17084, 109972) l_L_law_733 rfl ?_
  refine lr _ (736, [some (.ref 1000000), some (.ref b1), some (.ref b2), some (.int x3), some (.int v), some (.int c5), some (.int c6), some (.int c7), some (.ref b)], [.int c7, .int 3, .ref b], M7_, 17084, 109972) l_L_law_734 rfl ?_
  refine lr _ (737, [some (.ref 1000000), some (.ref b1), some (.ref b2), some (.int x3), some (.int v), some (.int c5), some (.int c6), some (.int c7), some (.ref b)], [.int 3, .int c7, .int 3, .ref b], M7_, 17084, 109972) l_L_law_736 rfl ?_
  refine lr _ (738, [some (.ref 1000000), some (.ref b1), some (.ref b2), some (.int x3), some (.int v), some (.int c5), some (.int c6), some (.int c7), some (.ref b)], [.int (c7 + 3), .int 3, .ref b], M7_, 17084, 109972) l_L_law_737 rfl ?_
  refine lr _ (739, [some (.ref 1000000), some (.ref b1), some (.ref b2), some (.int x3), some (.int v), some (.int c5), some (.int c6), some (.int c7), some (.ref b)], [.int (3 * (c7 + 3)), .ref b], M7_, 17084, 109972) l_L_law_738 rfl ?_
  refine lc_call [3 * (c7 + 3)] h15 A7_ (by omega) l_L_law_739 rfl rfl g_X11_countBelowByAsking (by decide) (by decide) (by decide) rfl rfl (fun R9 h9 => Or.inl ⟨_, _, rfl, h9⟩) (of_v_nr _) (fun M8_ A8_ F8_ => ?_)
  show mw_Wp sc mw_Good d_L_law 400 (742, [some (.ref 1000000), some (.ref b1), some (.ref b2), some (.int x3), some (.int v), some (.int c5), some (.int c6), some (.int c7), some (.ref b)], [.int (Int32.ofInt v8)], M8_, 17080, 109948) Qr Qx
  have A8_k0 := A7_k0.oth F8_ (Or.inl hd)
  have hn8 : ∀ x, 1000000 ≤ x → M8_.2.2.2.2.1 x = none := fun x a => F8_.2.2 x a (hn7 x a)
  refine lr _ (743, [some (.ref 1000000), some (.ref b1), some (.ref b2), some (.int x3), some (.int v), some (.int c5), some (.int c6), some (.int c7), some (.ref b)], [.int 1, .int (Int32.ofInt v8)], M8_, 17080, 109948) l_L_law_742 rfl ?_
  refine lbF _ (¬ (Int32.ofInt v8) = 1) (870, [some (.ref 1000000), some (.ref b1), some (.ref b2), some (.int x3), some (.int v), some (.int c5), some (.int c6), some (.int c7), some (.ref b)], [], M8_, 17080, 109948) (746, [some (.ref 1000000), some (.ref b1), some (.ref b2), some (.int x3), some (.int v), some (.int c5), some (.int c6), some (.int c7), some (.ref b)], [], M8_, 17080, 109948) l_L_law_743 rfl h16 ?_
  refine lr _ (748, [some (.ref 1000000), some (.ref b1), some (.ref b2), some (.int x3), some (.int v), some (.int c5), some (.int c6), some (.int c7), some (.ref b)], [.ref b], M8_, 17080, 109948) l_L_law_746 rfl ?_
  refine lr _ (749, [some (.ref 1000000), some (.ref b1), some (.ref b2), some (.int x3), some (.int v), some (.int c5), some (.int c6), some (.int c7), some (.ref b)], [.int 0, .ref b], M8_, 17080, 109948) l_L_law_748 rfl ?_
  refine lc_call [0] h17 A8_ (by omega) l_L_law_749 rfl rfl g_X11_isStranded (by decide) (by decide) (by decide) rfl rfl (fun R9 h9 => Or.inl ⟨_, _, rfl, h9⟩) (of_v_nr _) (fun M9_ A9_ F9_ => ?_)
  show mw_Wp sc mw_Good d_L_law 400 (752, [some (.ref 1000000), some (.ref b1), some (.ref b2), some (.int x3), some (.int v), some (.int c5), some (.int c6), some (.int c7), some (.ref b)], [.int (Int32.ofInt v9)], M9_, 17076, 109924) Qr Qx
  have A9_k0 := A8_k0.oth F9_ (Or.inl hd)
  have hn9 : ∀ x, 1000000 ≤ x → M9_.2.2.2.2.1 x = none := fun x a => F9_.2.2 x a (hn8 x a)
  refine lbF _ ((Int32.ofInt v9) = 0) (870, [some (.ref 1000000), some (.ref b1), some (.ref b2), some (.int x3), some (.int v), some (.int c5), some (.int c6), some (.int c7), some (.ref b)], [], M9_, 17076, 109924) (755, [some (.ref 1000000), some (.ref b1), some (.ref b2), some (.int x3), some (.int v), some (.int c5), some (.int c6), some (.int c7), some (.ref b)], [], M9_, 17076, 109924) l_L_law_752 rfl h18 ?_
  refine lr _ (757, [some (.ref 1000000), some (.ref b1), some (.ref b2), some (.int x3), some (.int v), some (.int c5), some (.int c6), some (.int c7), some (.ref b)], [.ref b], M9_, 17076, 109924) l_L_law_755 rfl ?_
  refine lr _ (758, [some (.ref 1000000), some (.ref b1), some (.ref b2), some (.int x3), some (.int v), some (.int c5), some (.int c6), some (.int c7), some (.ref b)], [.int 0, .ref b], M9_, 17076, 109924) l_L_law_757 rfl ?_
  refine lc_call [0] h19 A9_ (by omega) l_L_law_758 rfl rfl g_X11_bestLoad (by decide) (by decide) (by decide) rfl rfl (fun R9 h9 => Or.inl ⟨_, _, rfl, h9⟩) (of_v_nr _) (fun M10_ A10_ F10_ => ?_)
  show mw_Wp sc mw_Good d_L_law 400 (761, [some (.ref 1000000), some (.ref b1), some (.ref b2), some (.int x3), some (.int v), some (.int c5), some (.int c6), some (.int c7), some (.ref b)], [.int (Int32.ofInt v10)], M10_, 17072, 109900) Qr Qx
  have A10_k0 := A9_k0.oth F10_ (Or.inl hd)
  have hn10 : ∀ x, 1000000 ≤ x → M10_.2.2.2.2.1 x = none := fun x a => F10_.2.2 x a (hn9 x a)
  refine lr _ (763, [some (.ref 1000000), some (.ref b1), some (.ref b2), some (.int x3), some (.int v), some (.int c5), some (.int c6), some (.int c7), some (.ref b)], [.int 8, .int (Int32.ofInt v10)], M10_, 17072, 109900) l_L_law_761 rfl ?_
  refine lr _ (765, [some (.ref 1000000), some (.ref b1), some (.ref b2), some (.int x3), some (.int v), some (.int c5), some (.int c6), some (.int c7), some (.ref b)], [.int c7, .int 8, .int (Int32.ofInt v10)], M10_, 17072, 109900) l_L_law_763 rfl ?_
  refine lr _ (766, [some (.ref 1000000), some (.ref b1), some (.ref b2), some (.int x3), some (.int v), some (.int c5), some (.int c6), some (.int c7), some (.ref b)], [.int 3, .int c7, .int 8, .int (Int32.ofInt v10)], M10_, 17072, 109900) l_L_law_765 rfl ?_
  refine lr _ (767, [some (.ref 1000000), some (.ref b1), some (.ref b2), some (.int x3), some (.int v), some (.int c5), some (.int c6), some (.int c7), some (.ref b)], [.int (c7 + 3), .int 8, .int (Int32.ofInt v10)], M10_, 17072, 109900) l_L_law_766 rfl ?_
  refine lr _ (768, [some (.ref 1000000), some (.ref b1), some (.ref b2), some (.int x3), some (.int v), some (.int c5), some (.int c6), some (.int c7), some (.ref b)], [.int (8 * (c7 + 3)), .int (Int32.ofInt v10)], M10_, 17072, 109900) l_L_law_767 rfl ?_
  refine lbF _ (¬ (Int32.ofInt v10) = (8 * (c7 + 3))) (870, [some (.ref 1000000), some (.ref b1), some (.ref b2), some (.int x3), some (.int v), some (.int c5), some (.int c6), some (.int c7), some (.ref b)], [], M10_, 17072, 109900) (771, [some (.ref 1000000), some (.ref b1), some (.ref b2), some (.int x3), some (.int v), some (.int c5), some (.int c6), some (.int c7), some (.ref b)], [], M10_, 17072, 109900) l_L_law_768 rfl h20 ?_
  refine lr _ (773, [some (.ref 1000000), some (.ref b1), some (.ref b2), some (.int x3), some (.int v), some (.int c5), some (.int c6), some (.int c7), some (.ref b)], [.ref b], M10_, 17072, 109900) l_L_law_771 rfl ?_
  refine lr _ (774, [some (.ref 1000000), some (.ref b1), some (.ref b2), some (.int x3), some (.int v), some (.int c5), some (.int c6), some (.int c7), some (.ref b)], [.int 0, .ref b], M10_, 17072, 109900) l_L_law_773 rfl ?_
  refine lc_call [0] h21 A10_ (by omega) l_L_law_774 rfl rfl g_X11_bestLoadByTable (by decide) (by decide) (by decide) rfl rfl (fun R9 h9 => Or.inl ⟨_, _, rfl, h9⟩) (of_v_nr _) (fun M11_ A11_ F11_ => ?_)
  show mw_Wp sc mw_Good d_L_law 400 (777, [some (.ref 1000000), some (.ref b1), some (.ref b2), some (.int x3), some (.int v), some (.int c5), some (.int c6), some (.int c7), some (.ref b)], [.int (Int32.ofInt v11)], M11_, 17068, 109876) Qr Qx
  have A11_k0 := A10_k0.oth F11_ (Or.inl hd)
  have hn11 : ∀ x, 1000000 ≤ x → M11_.2.2.2.2.1 x = none := fun x a => F11_.2.2 x a (hn10 x a)
  refine lr _ (779, [some (.ref 1000000), some (.ref b1), some (.ref b2), some (.int x3), some (.int v), some (.int c5), some (.int c6), some (.int c7), some (.ref b)], [.int 8, .int (Int32.ofInt v11)], M11_, 17068, 109876) l_L_law_777 rfl ?_
  refine lr _ (781, [some (.ref 1000000), some (.ref b1), some (.ref b2), some (.int x3), some (.int v), some (.int c5), some (.int c6), some (.int c7), some (.ref b)], [.int c7, .int 8, .int (Int32.ofInt v11)], M11_, 17068, 109876) l_L_law_779 rfl ?_
  refine lr _ (782, [some (.ref 1000000), some (.ref b1), some (.ref b2), some (.int x3), some (.int v), some (.int c5), some (.int c6), some (.int c7), some (.ref b)], [.int 3, .int c7, .int 8, .int (Int32.ofInt v11)], M11_, 17068, 109876) l_L_law_781 rfl ?_
  refine lr _ (783, [some (.ref 1000000), some (.ref b1), some (.ref b2), some (.int x3), some (.int v), some (.int c5), some (.int c6), some (.int c7), some (.ref b)], [.int (c7 + 3), .int 8, .int (Int32.ofInt v11)], M11_, 17068, 109876) l_L_law_782 rfl ?_
  refine lr _ (784, [some (.ref 1000000), some (.ref b1), some (.ref b2), some (.int x3), some (.int v), some (.int c5), some (.int c6), some (.int c7), some (.ref b)], [.int (8 * (c7 + 3)), .int (Int32.ofInt v11)], M11_, 17068, 109876) l_L_law_783 rfl ?_
  refine lbF _ (¬ (Int32.ofInt v11) = (8 * (c7 + 3))) (870, [some (.ref 1000000), some (.ref b1), some (.ref b2), some (.int x3), some (.int v), some (.int c5), some (.int c6), some (.int c7), some (.ref b)], [], M11_, 17068, 109876) (787, [some (.ref 1000000), some (.ref b1), some (.ref b2), some (.int x3), some (.int v), some (.int c5), some (.int c6), some (.int c7), some (.ref b)], [], M11_, 17068, 109876) l_L_law_784 rfl h22 ?_
  exact K _ (A11_.up (by omega) (by omega)) A11_k0 hn11
theorem w_14 {s0 s1 s2 s3 s4 : of_S} {b1 b2 b : Nat} {x3 v c5 c6 c7 : Int32} {v1 v2 v3 : Int} {B : Int} (O1 : Off b1 302 M w B) (O3 : Off b 302 M s0 9000) (hd : b1 + 303 ≤ b) (hkn : ∀ x, 1000000 ≤ x → M.2.2.2.2.1 x = none) 
    (h1 : la sc d_L_act [5, 0, 0, 0] s0 (-4 : Int32) s1 200 22 4 24)
    (h2 : la sc d_L_act [3, 0, 0, 0] s1 (-4 : Int32) s2 200 22 4 24)
    (h3 : of_call d_X11_refusalReason [] s2 (of_v (.inr v1)) s2 0)
    (h4 : ¬ (¬ (Int32.ofInt v1) = 5))
    (h5 : la sc d_L_act [2, 0, 2, 0] s2 (-4 : Int32) s3 200 22 4 24)
    (h6 : of_call d_X11_refusalReason [] s3 (of_v (.inr v2)) s3 0)
    (h7 : ¬ (¬ (Int32.ofInt v2) = 1))
    (h8 : la sc d_L_act [2, 0, 1, 0] s3 (-4 : Int32) s4 200 22 4 24)
    (h9 : of_call d_X11_refusalReason [] s4 (of_v (.inr v3)) s4 0)
    (h10 : (Int32.ofInt v3) = 2)
    (K : ∀ (M' : mw_Mem), Off b 302 M' s4 10000 → Off b1 302 M' w B → (∀ x, 1000000 ≤ x → M'.2.2.2.2.1 x = none) → mw_Wp sc mw_Good d_L_law 400 (872, [some (.ref 1000000), some (.ref b1), some (.ref b2), some (.int x3), some (.int v), some (.int c5), some (.int c6), some (.int c7), some (.ref b)], [], M', 17040, 109708) Qr Qx) : mw_Wp sc mw_Good d_L_law 400 (787, [some (.ref 1000000), some (.ref b1), some (.ref b2), some (.int x3), some (.int v), some (.int c5), some (.int c6), some (.int c7), some (.ref b)], [], M, 17068, 109876) Qr Qx := by
  refine lr _ (789, [some (.ref 1000000), some (.ref b1), some (.ref b2), some (.int x3), some (.int v), some (.int c5), some (.int c6), some (.int c7), some (.ref b)], [.ref b], M, 17068, 109876) l_L_law_787 rfl ?_
  refine lr _ (790, [some (.ref 1000000), some (.ref b1), some (.ref b2), some (.int x3), some (.int v), some (.int c5), some (.int c6), some (.int c7), some (.ref b)], [.int 5, .ref b], M, 17068, 109876) l_L_law_789 rfl ?_
  refine lr _ (791, [some (.ref 1000000), some (.ref b1), some (.ref b2), some (.int x3), some (.int v), some (.int c5), some (.int c6), some (.int c7), some (.ref b)], [.int 0, .int 5, .ref b], M, 17068, 109876) l_L_law_790 rfl ?_
  refine lr _ (792, [some (.ref 1000000), some (.ref b1), some (.ref b2), some (.int x3), some (.int v), some (.int c5), some (.int c6), some (.int c7), some (.ref b)], [.int 0, .int 0, .int 5, .ref b], M, 17068, 109876) l_L_law_791 rfl ?_
  refine lr _ (793, [some (.ref 1000000), some (.ref b1), some (.ref b2), some (.int x3), some (.int v), some (.int c5), some (.int c6), some (.int c7), some (.ref b)], [.int 0, .int 0, .int 0, .int 5, .ref b], M, 17068, 109876) l_L_law_792 rfl ?_
  refine lc_own [5, 0, 0, 0] _ h1 O3 (by omega) l_L_law_793 rfl rfl g_L_act (by decide) (by decide) (by decide) True.intro rfl rfl (fun M1_ A1_ F1_ => ?_)
  show mw_Wp sc mw_Good d_L_law 400 (796, [some (.ref 1000000), some (.ref b1), some (.ref b2), some (.int x3), some (.int v), some (.int c5), some (.int c6), some (.int c7), some (.ref b)], [.int (-4 : Int32)], M1_, 17064, 109852) Qr Qx
  have A1_k0 := O1.oth F1_ (Or.inl hd)
  have hn1 : ∀ x, 1000000 ≤ x → M1_.2.2.2.2.1 x = none := fun x a => F1_.2.2 x a (hkn x a)
  refine lr _ (798, [some (.ref 1000000), some (.ref b1), some (.ref b2), some (.int x3), some (.int v), some (.int c5), some (.int c6), some (.int c7), some (.ref b)], [.int (-4), .int (-4 : Int32)], M1_, 17064, 109852) l_L_law_796 rfl ?_
  refine lbF _ (¬ (-4 : Int32) = (-4)) (870, [some (.ref 1000000), some (.ref b1), some (.ref b2), some (.int x3), some (.int v), some (.int c5), some (.int c6), some (.int c7), some (.ref b)], [], M1_, 17064, 109852) (801, [some (.ref 1000000), some (.ref b1), some (.ref b2), some (.int x3), some (.int v), some (.int c5), some (.int c6), some (.int c7), some (.ref b)], [], M1_, 17064, 109852) l_L_law_798 rfl (by decide) ?_
  refine lr _ (803, [some (.ref 1000000), some (.ref b1), some (.ref b2), some (.int x3), some (.int v), some (.int c5), some (.int c6), some (.int c7), some (.ref b)], [.ref b], M1_, 17064, 109852) l_L_law_801 rfl ?_
  refine lr _ (804, [some (.ref 1000000), some (.ref b1), some (.ref b2), some (.int x3), some (.int v), some (.int c5), some (.int c6), some (.int c7), some (.ref b)], [.int 3, .ref b], M1_, 17064, 109852) l_L_law_803 rfl ?_
  refine lr _ (805, [some (.ref 1000000), some (.ref b1), some (.ref b2), some (.int x3), some (.int v), some (.int c5), some (.int c6), some (.int c7), some (.ref b)], [.int 0, .int 3, .ref b], M1_, 17064, 109852) l_L_law_804 rfl ?_
  refine lr _ (806, [some (.ref 1000000), some (.ref b1), some (.ref b2), some (.int x3), some (.int v), some (.int c5), some (.int c6), some (.int c7), some (.ref b)], [.int 0, .int 0, .int 3, .ref b], M1_, 17064, 109852) l_L_law_805 rfl ?_
  refine lr _ (807, [some (.ref 1000000), some (.ref b1), some (.ref b2), some (.int x3), some (.int v), some (.int c5), some (.int c6), some (.int c7), some (.ref b)], [.int 0, .int 0, .int 0, .int 3, .ref b], M1_, 17064, 109852) l_L_law_806 rfl ?_
  refine lc_own [3, 0, 0, 0] _ h2 A1_ (by omega) l_L_law_807 rfl rfl g_L_act (by decide) (by decide) (by decide) True.intro rfl rfl (fun M2_ A2_ F2_ => ?_)
  show mw_Wp sc mw_Good d_L_law 400 (810, [some (.ref 1000000), some (.ref b1), some (.ref b2), some (.int x3), some (.int v), some (.int c5), some (.int c6), some (.int c7), some (.ref b)], [.int (-4 : Int32)], M2_, 17060, 109828) Qr Qx
  have A2_k0 := A1_k0.oth F2_ (Or.inl hd)
  have hn2 : ∀ x, 1000000 ≤ x → M2_.2.2.2.2.1 x = none := fun x a => F2_.2.2 x a (hn1 x a)
  refine lr _ (812, [some (.ref 1000000), some (.ref b1), some (.ref b2), some (.int x3), some (.int v), some (.int c5), some (.int c6), some (.int c7), some (.ref b)], [.int (-4), .int (-4 : Int32)], M2_, 17060, 109828) l_L_law_810 rfl ?_
  refine lbF _ (¬ (-4 : Int32) = (-4)) (870, [some (.ref 1000000), some (.ref b1), some (.ref b2), some (.int x3), some (.int v), some (.int c5), some (.int c6), some (.int c7), some (.ref b)], [], M2_, 17060, 109828) (815, [some (.ref 1000000), some (.ref b1), some (.ref b2), some (.int x3), some (.int v), some (.int c5), some (.int c6), some (.int c7), some (.ref b)], [], M2_, 17060, 109828) l_L_law_812 rfl (by decide) ?_
  refine lr _ (817, [some (.ref 1000000), some (.ref b1), some (.ref b2), some (.int x3), some (.int v), some (.int c5), some (.int c6), some (.int c7), some (.ref b)], [.ref b], M2_, 17060, 109828) l_L_law_815 rfl ?_
  refine lc_call [] h3 A2_ (by omega) l_L_law_817 rfl rfl g_X11_refusalReason (by decide) (by decide) (by decide) rfl rfl (fun R9 h9 => Or.inl ⟨_, _, rfl, h9⟩) (of_v_nr _) (fun M3_ A3_ F3_ => ?_)
  show mw_Wp sc mw_Good d_L_law 400 (820, [some (.ref 1000000), some (.ref b1), some (.ref b2), some (.int x3), some (.int v), some (.int c5), some (.int c6), some (.int c7), some (.ref b)], [.int (Int32.ofInt v1)], M3_, 17056, 109804) Qr Qx
  have A3_k0 := A2_k0.oth F3_ (Or.inl hd)
  have hn3 : ∀ x, 1000000 ≤ x → M3_.2.2.2.2.1 x = none := fun x a => F3_.2.2 x a (hn2 x a)
  refine lr _ (821, [some (.ref 1000000), some (.ref b1), some (.ref b2), some (.int x3), some (.int v), some (.int c5), some (.int c6), some (.int c7), some (.ref b)], [.int 5, .int (Int32.ofInt v1)], M3_, 17056, 109804) l_L_law_820 rfl ?_
  refine lbF _ (¬ (Int32.ofInt v1) = 5) (870, [some (.ref 1000000), some (.ref b1), some (.ref b2), some (.int x3), some (.int v), some (.int c5), some (.int c6), some (.int c7), some (.ref b)], [], M3_, 17056, 109804) (824, [some (.ref 1000000), some (.ref b1), some (.ref b2), some (.int x3), some (.int v), some (.int c5), some (.int c6), some (.int c7), some (.ref b)], [], M3_, 17056, 109804) l_L_law_821 rfl h4 ?_
  refine lr _ (826, [some (.ref 1000000), some (.ref b1), some (.ref b2), some (.int x3), some (.int v), some (.int c5), some (.int c6), some (.int c7), some (.ref b)], [.ref b], M3_, 17056, 109804) l_L_law_824 rfl ?_
  refine lr _ (827, [some (.ref 1000000), some (.ref b1), some (.ref b2), some (.int x3), some (.int v), some (.int c5), some (.int c6), some (.int c7), some (.ref b)], [.int 2, .ref b], M3_, 17056, 109804) l_L_law_826 rfl ?_
  refine lr _ (828, [some (.ref 1000000), some (.ref b1), some (.ref b2), some (.int x3), some (.int v), some (.int c5), some (.int c6), some (.int c7), some (.ref b)], [.int 0, .int 2, .ref b], M3_, 17056, 109804) l_L_law_827 rfl ?_
  refine lr _ (829, [some (.ref 1000000), some (.ref b1), some (.ref b2), some (.int x3), some (.int v), some (.int c5), some (.int c6), some (.int c7), some (.ref b)], [.int 2, .int 0, .int 2, .ref b], M3_, 17056, 109804) l_L_law_828 rfl ?_
  refine lr _ (830, [some (.ref 1000000), some (.ref b1), some (.ref b2), some (.int x3), some (.int v), some (.int c5), some (.int c6), some (.int c7), some (.ref b)], [.int 0, .int 2, .int 0, .int 2, .ref b], M3_, 17056, 109804) l_L_law_829 rfl ?_
  refine lc_own [2, 0, 2, 0] _ h5 A3_ (by omega) l_L_law_830 rfl rfl g_L_act (by decide) (by decide) (by decide) True.intro rfl rfl (fun M4_ A4_ F4_ => ?_)
  show mw_Wp sc mw_Good d_L_law 400 (833, [some (.ref 1000000), some (.ref b1), some (.ref b2), some (.int x3), some (.int v), some (.int c5), some (.int c6), some (.int c7), some (.ref b)], [.int (-4 : Int32)], M4_, 17052, 109780) Qr Qx
  have A4_k0 := A3_k0.oth F4_ (Or.inl hd)
  have hn4 : ∀ x, 1000000 ≤ x → M4_.2.2.2.2.1 x = none := fun x a => F4_.2.2 x a (hn3 x a)
  refine lr _ (835, [some (.ref 1000000), some (.ref b1), some (.ref b2), some (.int x3), some (.int v), some (.int c5), some (.int c6), some (.int c7), some (.ref b)], [.int (-4), .int (-4 : Int32)], M4_, 17052, 109780) l_L_law_833 rfl ?_
  refine lbF _ (¬ (-4 : Int32) = (-4)) (870, [some (.ref 1000000), some (.ref b1), some (.ref b2), some (.int x3), some (.int v), some (.int c5), some (.int c6), some (.int c7), some (.ref b)], [], M4_, 17052, 109780) (838, [some (.ref 1000000), some (.ref b1), some (.ref b2), some (.int x3), some (.int v), some (.int c5), some (.int c6), some (.int c7), some (.ref b)], [], M4_, 17052, 109780) l_L_law_835 rfl (by decide) ?_
  refine lr _ (840, [some (.ref 1000000), some (.ref b1), some (.ref b2), some (.int x3), some (.int v), some (.int c5), some (.int c6), some (.int c7), some (.ref b)], [.ref b], M4_, 17052, 109780) l_L_law_838 rfl ?_
  refine lc_call [] h6 A4_ (by omega) l_L_law_840 rfl rfl g_X11_refusalReason (by decide) (by decide) (by decide) rfl rfl (fun R9 h9 => Or.inl ⟨_, _, rfl, h9⟩) (of_v_nr _) (fun M5_ A5_ F5_ => ?_)
  show mw_Wp sc mw_Good d_L_law 400 (843, [some (.ref 1000000), some (.ref b1), some (.ref b2), some (.int x3), some (.int v), some (.int c5), some (.int c6), some (.int c7), some (.ref b)], [.int (Int32.ofInt v2)], M5_, 17048, 109756) Qr Qx
  have A5_k0 := A4_k0.oth F5_ (Or.inl hd)
  have hn5 : ∀ x, 1000000 ≤ x → M5_.2.2.2.2.1 x = none := fun x a => F5_.2.2 x a (hn4 x a)
  refine lr _ (844, [some (.ref 1000000), some (.ref b1), some (.ref b2), some (.int x3), some (.int v), some (.int c5), some (.int c6), some (.int c7), some (.ref b)], [.int 1, .int (Int32.ofInt v2)], M5_, 17048, 109756) l_L_law_843 rfl ?_
  refine lbF _ (¬ (Int32.ofInt v2) = 1) (870, [some (.ref 1000000), some (.ref b1), some (.ref b2), some (.int x3), some (.int v), some (.int c5), some (.int c6), some (.int c7), some (.ref b)], [], M5_, 17048, 109756) (847, [some (.ref 1000000), some (.ref b1), some (.ref b2), some (.int x3), some (.int v), some (.int c5), some (.int c6), some (.int c7), some (.ref b)], [], M5_, 17048, 109756) l_L_law_844 rfl h7 ?_
  refine lr _ (849, [some (.ref 1000000), some (.ref b1), some (.ref b2), some (.int x3), some (.int v), some (.int c5), some (.int c6), some (.int c7), some (.ref b)], [.ref b], M5_, 17048, 109756) l_L_law_847 rfl ?_
  refine lr _ (850, [some (.ref 1000000), some (.ref b1), some (.ref b2), some (.int x3), some (.int v), some (.int c5), some (.int c6), some (.int c7), some (.ref b)], [.int 2, .ref b], M5_, 17048, 109756) l_L_law_849 rfl ?_
  refine lr _ (851, [some (.ref 1000000), some (.ref b1), some (.ref b2), some (.int x3), some (.int v), some (.int c5), some (.int c6), some (.int c7), some (.ref b)], [.int 0, .int 2, .ref b], M5_, 17048, 109756) l_L_law_850 rfl ?_
  refine lr _ (852, [some (.ref 1000000), some (.ref b1), some (.ref b2), some (.int x3), some (.int v), some (.int c5), some (.int c6), some (.int c7), some (.ref b)], [.int 1, .int 0, .int 2, .ref b], M5_, 17048, 109756) l_L_law_851 rfl ?_
  refine lr _ (853, [some (.ref 1000000), some (.ref b1), some (.ref b2), some (.int x3), some (.int v), some (.int c5), some (.int c6), some (.int c7), some (.ref b)], [.int 0, .int 1, .int 0, .int 2, .ref b], M5_, 17048, 109756) l_L_law_852 rfl ?_
  refine lc_own [2, 0, 1, 0] _ h8 A5_ (by omega) l_L_law_853 rfl rfl g_L_act (by decide) (by decide) (by decide) True.intro rfl rfl (fun M6_ A6_ F6_ => ?_)
  show mw_Wp sc mw_Good d_L_law 400 (856, [some (.ref 1000000), some (.ref b1), some (.ref b2), some (.int x3), some (.int v), some (.int c5), some (.int c6), some (.int c7), some (.ref b)], [.int (-4 : Int32)], M6_, 17044, 109732) Qr Qx
  have A6_k0 := A5_k0.oth F6_ (Or.inl hd)
  have hn6 : ∀ x, 1000000 ≤ x → M6_.2.2.2.2.1 x = none := fun x a => F6_.2.2 x a (hn5 x a)
  refine lr _ (858, [some (.ref 1000000), some (.ref b1), some (.ref b2), some (.int x3), some (.int v), some (.int c5), some (.int c6), some (.int c7), some (.ref b)], [.int (-4), .int (-4 : Int32)], M6_, 17044, 109732) l_L_law_856 rfl ?_
  refine lbF _ (¬ (-4 : Int32) = (-4)) (870, [some (.ref 1000000), some (.ref b1), some (.ref b2), some (.int x3), some (.int v), some (.int c5), some (.int c6), some (.int c7), some (.ref b)], [], M6_, 17044, 109732) (861, [some (.ref 1000000), some (.ref b1), some (.ref b2), some (.int x3), some (.int v), some (.int c5), some (.int c6), some (.int c7), some (.ref b)], [], M6_, 17044, 109732) l_L_law_858 rfl (by decide) ?_
  refine lr _ (863, [some (.ref 1000000), some (.ref b1), some (.ref b2), some (.int x3), some (.int v), some (.int c5), some (.int c6), some (.int c7), some (.ref b)], [.ref b], M6_, 17044, 109732) l_L_law_861 rfl ?_
  refine lc_call [] h9 A6_ (by omega) l_L_law_863 rfl rfl g_X11_refusalReason (by decide) (by decide) (by decide) rfl rfl (fun R9 h9 => Or.inl ⟨_, _, rfl, h9⟩) (of_v_nr _) (fun M7_ A7_ F7_ => ?_)
  show mw_Wp sc mw_Good d_L_law 400 (866, [some (.ref 1000000), some (.ref b1), some (.ref b2), some (.int x3), some (.int v), some (.int c5), some (.int c6), some (.int c7), some (.ref b)], [.int (Int32.ofInt v3)], M7_, 17040, 109708) Qr Qx
  have A7_k0 := A6_k0.oth F7_ (Or.inl hd)
  have hn7 : ∀ x, 1000000 ≤ x → M7_.2.2.2.2.1 x = none := fun x a => F7_.2.2 x a (hn6 x a)
  refine lr _ (867, [some (.ref 1000000), some (.ref b1), some (.ref b2), some (.int x3), some (.int v), some (.int c5), some (.int c6), some (.int c7), some (.ref b)], [.int 2, .int (Int32.ofInt v3)], M7_, 17040, 109708) l_L_law_866 rfl ?_
  refine lbT _ ((Int32.ofInt v3) = 2) (872, [some (.ref 1000000), some (.ref b1), some (.ref b2), some (.int x3), some (.int v), some (.int c5), some (.int c6), some (.int c7), some (.ref b)], [], M7_, 17040, 109708) (870, [some (.ref 1000000), some (.ref b1), some (.ref b2), some (.int x3), some (.int v), some (.int c5), some (.int c6), some (.int c7), some (.ref b)], [], M7_, 17040, 109708) l_L_law_867 rfl h10 ?_
  exact K _ (A7_.up (by omega) (by omega)) A7_k0 hn7
end
