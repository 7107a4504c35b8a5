/-! build -/
section
variable {sc : Nat × (Nat → Int32)}
theorem e1 {z cr k : Int32} (q : cr ≤ k) (w : of_S) : Sg sc d_L_build 25 (fun b => [some (.ref 1000000), some (.ref b), some (.int z), some (.int cr), some (.int k), none, none, none]) w 58 (fun b => [some (.ref 1000000), some (.ref b), some (.int z), some (.int cr), some (.int k), none, none, none]) w 0 0 0 := by
  intro b sb M B Qr Qx c0 s0 hO hB K
  show mw_Wp sc mw_Good d_L_build 300 (25, [some (.ref 1000000), some (.ref b), some (.int z), some (.int cr), some (.int k), none, none, none], [], M, c0 + 0, s0 + 0) Qr Qx
  refine lr _ (27, [some (.ref 1000000), some (.ref b), some (.int z), some (.int cr), some (.int k), none, none, none], [.int k], M, c0 + 0, s0 + 0) l_L_build_25 rfl ?_
  refine lr _ (28, [some (.ref 1000000), some (.ref b), some (.int z), some (.int cr), some (.int k), none, none, none], [.int cr, .int k], M, c0 + 0, s0 + 0) l_L_build_27 rfl ?_
  refine lbT _ (cr ≤ k) (58, [some (.ref 1000000), some (.ref b), some (.int z), some (.int cr), some (.int k), none, none, none], [], M, c0 + 0, s0 + 0) (31, [some (.ref 1000000), some (.ref b), some (.int z), some (.int cr), some (.int k), none, none, none], [], M, c0 + 0, s0 + 0) l_L_build_28 rfl q ?_
  exact K M (hO.up (by omega) hB) Fr.refl
theorem e2 {z cr k : Int32} (q : cr ≤ k) (w : of_S) : Sg sc d_L_build 61 (fun b => [some (.ref 1000000), some (.ref b), some (.int z), some (.int cr), some (.int k), none, none, none]) w 111 (fun b => [some (.ref 1000000), some (.ref b), some (.int z), some (.int cr), some (.int k), none, none, none]) w 0 0 0 := by
  intro b sb M B Qr Qx c0 s0 hO hB K
  show mw_Wp sc mw_Good d_L_build 300 (61, [some (.ref 1000000), some (.ref b), some (.int z), some (.int cr), some (.int k), none, none, none], [], M, c0 + 0, s0 + 0) Qr Qx
  refine lr _ (63, [some (.ref 1000000), some (.ref b), some (.int z), some (.int cr), some (.int k), none, none, none], [.int k], M, c0 + 0, s0 + 0) l_L_build_61 rfl ?_
  refine lr _ (64, [some (.ref 1000000), some (.ref b), some (.int z), some (.int cr), some (.int k), none, none, none], [.int cr, .int k], M, c0 + 0, s0 + 0) l_L_build_63 rfl ?_
  refine lbT _ (cr ≤ k) (111, [some (.ref 1000000), some (.ref b), some (.int z), some (.int cr), some (.int k), none, none, none], [], M, c0 + 0, s0 + 0) (67, [some (.ref 1000000), some (.ref b), some (.int z), some (.int cr), some (.int k), none, none, none], [], M, c0 + 0, s0 + 0) l_L_build_64 rfl q ?_
  exact K M (hO.up (by omega) hB) Fr.refl
theorem e3 {z cr k : Int32} (q : 3 ≤ k) (w : of_S) : Sg sc d_L_build 114 (fun b => [some (.ref 1000000), some (.ref b), some (.int z), some (.int cr), some (.int k), none, none, none]) w 166 (fun b => [some (.ref 1000000), some (.ref b), some (.int z), some (.int cr), some (.int k), none, none, none]) w 0 0 0 := by
  intro b sb M B Qr Qx c0 s0 hO hB K
  show mw_Wp sc mw_Good d_L_build 300 (114, [some (.ref 1000000), some (.ref b), some (.int z), some (.int cr), some (.int k), none, none, none], [], M, c0 + 0, s0 + 0) Qr Qx
  refine lr _ (116, [some (.ref 1000000), some (.ref b), some (.int z), some (.int cr), some (.int k), none, none, none], [.int k], M, c0 + 0, s0 + 0) l_L_build_114 rfl ?_
  refine lr _ (117, [some (.ref 1000000), some (.ref b), some (.int z), some (.int cr), some (.int k), none, none, none], [.int 3, .int k], M, c0 + 0, s0 + 0) l_L_build_116 rfl ?_
  refine lbT _ (3 ≤ k) (166, [some (.ref 1000000), some (.ref b), some (.int z), some (.int cr), some (.int k), none, none, none], [], M, c0 + 0, s0 + 0) (120, [some (.ref 1000000), some (.ref b), some (.int z), some (.int cr), some (.int k), none, none, none], [], M, c0 + 0, s0 + 0) l_L_build_117 rfl q ?_
  exact K M (hO.up (by omega) hB) Fr.refl
theorem e4 {z cr k : Int32} (q : 13 ≤ k) (w : of_S) : Sg sc d_L_build 169 (fun b => [some (.ref 1000000), some (.ref b), some (.int z), some (.int cr), some (.int k), none, none, none]) w 562 (fun b => [some (.ref 1000000), some (.ref b), some (.int z), some (.int cr), some (.int k), none, none, none]) w 0 0 0 := by
  intro b sb M B Qr Qx c0 s0 hO hB K
  show mw_Wp sc mw_Good d_L_build 300 (169, [some (.ref 1000000), some (.ref b), some (.int z), some (.int cr), some (.int k), none, none, none], [], M, c0 + 0, s0 + 0) Qr Qx
  refine lr _ (171, [some (.ref 1000000), some (.ref b), some (.int z), some (.int cr), some (.int k), none, none, none], [.int k], M, c0 + 0, s0 + 0) l_L_build_169 rfl ?_
  refine lr _ (173, [some (.ref 1000000), some (.ref b), some (.int z), some (.int cr), some (.int k), none, none, none], [.int 13, .int k], M, c0 + 0, s0 + 0) l_L_build_171 rfl ?_
  refine lbT _ (13 ≤ k) (562, [some (.ref 1000000), some (.ref b), some (.int z), some (.int cr), some (.int k), none, none, none], [], M, c0 + 0, s0 + 0) (176, [some (.ref 1000000), some (.ref b), some (.int z), some (.int cr), some (.int k), none, none, none], [], M, c0 + 0, s0 + 0) l_L_build_173 rfl q ?_
  exact K M (hO.up (by omega) hB) Fr.refl
theorem k1 {z cr k : Int32} (w : of_S) : Sg sc d_L_build 58 (fun b => [some (.ref 1000000), some (.ref b), some (.int z), some (.int cr), some (.int k), none, none, none]) w 61 (fun b => [some (.ref 1000000), some (.ref b), some (.int z), some (.int cr), some (.int (Int32.ofInt 1)), none, none, none]) w 0 0 0 := by
  intro b sb M B Qr Qx c0 s0 hO hB K
  show mw_Wp sc mw_Good d_L_build 300 (58, [some (.ref 1000000), some (.ref b), some (.int z), some (.int cr), some (.int k), none, none, none], [], M, c0 + 0, s0 + 0) Qr Qx
  refine lr _ (59, [some (.ref 1000000), some (.ref b), some (.int z), some (.int cr), some (.int k), none, none, none], [.int 1], M, c0 + 0, s0 + 0) l_L_build_58 rfl ?_
  refine lr _ (61, [some (.ref 1000000), some (.ref b), some (.int z), some (.int cr), some (.int 1), none, none, none], [], M, c0 + 0, s0 + 0) l_L_build_59 rfl ?_
  rw [show (1 : Int32) = Int32.ofInt 1 from rfl]
  exact K M (hO.up (by omega) hB) Fr.refl
theorem k2 {z cr k : Int32} (w : of_S) : Sg sc d_L_build 111 (fun b => [some (.ref 1000000), some (.ref b), some (.int z), some (.int cr), some (.int k), none, none, none]) w 114 (fun b => [some (.ref 1000000), some (.ref b), some (.int z), some (.int cr), some (.int (Int32.ofInt 0)), none, none, none]) w 0 0 0 := by
  intro b sb M B Qr Qx c0 s0 hO hB K
  show mw_Wp sc mw_Good d_L_build 300 (111, [some (.ref 1000000), some (.ref b), some (.int z), some (.int cr), some (.int k), none, none, none], [], M, c0 + 0, s0 + 0) Qr Qx
  refine lr _ (112, [some (.ref 1000000), some (.ref b), some (.int z), some (.int cr), some (.int k), none, none, none], [.int 0], M, c0 + 0, s0 + 0) l_L_build_111 rfl ?_
  refine lr _ (114, [some (.ref 1000000), some (.ref b), some (.int z), some (.int cr), some (.int 0), none, none, none], [], M, c0 + 0, s0 + 0) l_L_build_112 rfl ?_
  rw [show (0 : Int32) = Int32.ofInt 0 from rfl]
  exact K M (hO.up (by omega) hB) Fr.refl
theorem k3 {z cr k : Int32} (w : of_S) : Sg sc d_L_build 166 (fun b => [some (.ref 1000000), some (.ref b), some (.int z), some (.int cr), some (.int k), none, none, none]) w 169 (fun b => [some (.ref 1000000), some (.ref b), some (.int z), some (.int cr), some (.int (Int32.ofInt 1)), none, none, none]) w 0 0 0 := by
  intro b sb M B Qr Qx c0 s0 hO hB K
  show mw_Wp sc mw_Good d_L_build 300 (166, [some (.ref 1000000), some (.ref b), some (.int z), some (.int cr), some (.int k), none, none, none], [], M, c0 + 0, s0 + 0) Qr Qx
  refine lr _ (167, [some (.ref 1000000), some (.ref b), some (.int z), some (.int cr), some (.int k), none, none, none], [.int 1], M, c0 + 0, s0 + 0) l_L_build_166 rfl ?_
  refine lr _ (169, [some (.ref 1000000), some (.ref b), some (.int z), some (.int cr), some (.int 1), none, none, none], [], M, c0 + 0, s0 + 0) l_L_build_167 rfl ?_
  rw [show (1 : Int32) = Int32.ofInt 1 from rfl]
  exact K M (hO.up (by omega) hB) Fr.refl
theorem b4_0 {z cr : Int32} (hcr : ¬ cr = 0) {kk : Nat} (hk : kk < 13) (hs : sc.1 ≤ 1000) (w : of_S) : ∃ fe ca : Int32, Sg sc d_L_build 169 (fun b => [some (.ref 1000000), some (.ref b), some (.int z), some (.int cr), some (.int (Int32.ofInt (kk : Int))), none, none, none]) w 203 (fun b => [some (.ref 1000000), some (.ref b), some (.int z), some (.int cr), some (.int (Int32.ofInt (kk : Int))), some (.int (s_at sc kk)), some (.int fe), some (.int ca)]) w 0 0 0 := by
  refine ⟨((s_at sc kk) &&& 3) - ((s_at sc kk) &&& 3) / 3 * 3, (((s_at sc kk) >>> ((2 : Int32) &&& 31)) &&& 7) - (((s_at sc kk) >>> ((2 : Int32) &&& 31)) &&& 7) / cr * cr, ?_⟩
  intro b sb M B Qr Qx c0 s0 hO hB K
  show mw_Wp sc mw_Good d_L_build 300 (169, [some (.ref 1000000), some (.ref b), some (.int z), some (.int cr), some (.int (Int32.ofInt (kk : Int))), none, none, none], [], M, c0 + 0, s0 + 0) Qr Qx
  refine lr _ (171, [some (.ref 1000000), some (.ref b), some (.int z), some (.int cr), some (.int (Int32.ofInt (kk : Int))), none, none, none], [.int (Int32.ofInt (kk : Int))], M, c0 + 0, s0 + 0) l_L_build_169 rfl ?_
  refine lr _ (173, [some (.ref 1000000), some (.ref b), some (.int z), some (.int cr), some (.int (Int32.ofInt (kk : Int))), none, none, none], [.int 13, .int (Int32.ofInt (kk : Int))], M, c0 + 0, s0 + 0) l_L_build_171 rfl ?_
  refine lbF _ (13 ≤ (Int32.ofInt (kk : Int))) (562, [some (.ref 1000000), some (.ref b), some (.int z), some (.int cr), some (.int (Int32.ofInt (kk : Int))), none, none, none], [], M, c0 + 0, s0 + 0) (176, [some (.ref 1000000), some (.ref b), some (.int z), some (.int cr), some (.int (Int32.ofInt (kk : Int))), none, none, none], [], M, c0 + 0, s0 + 0) l_L_build_173 rfl (fun h => by
    rw [show (13 : Int32) = Int32.ofInt 13 from rfl, nw_le ⟨by decide, by decide⟩ ⟨by omega, by omega⟩] at h
    omega) ?_
  refine lr _ (177, [some (.ref 1000000), some (.ref b), some (.int z), some (.int cr), some (.int (Int32.ofInt (kk : Int))), none, none, none], [.ref 1000000], M, c0 + 0, s0 + 0) l_L_build_176 rfl ?_
  refine lr _ (179, [some (.ref 1000000), some (.ref b), some (.int z), some (.int cr), some (.int (Int32.ofInt (kk : Int))), none, none, none], [.int (Int32.ofInt (kk : Int)), .ref 1000000], M, c0 + 0, s0 + 0) l_L_build_177 rfl ?_
  refine mw_Wp.cal _ d_L_at 0 0 0 l_L_build_179 rfl rfl g_L_at (by decide) (Nat.zero_le _) (Nat.zero_le _) True.intro ?_
  refine t_at (by omega) hs ?_
  show mw_Wp sc mw_Good d_L_build 300 (182, [some (.ref 1000000), some (.ref b), some (.int z), some (.int cr), some (.int (Int32.ofInt (kk : Int))), none, none, none], [.int (s_at sc kk)], M, c0 + 0 - 0, s0 + 0 - 0) Qr Qx
  refine lr _ (184, [some (.ref 1000000), some (.ref b), some (.int z), some (.int cr), some (.int (Int32.ofInt (kk : Int))), some (.int (s_at sc kk)), none, none], [], M, c0 + 0 - 0, s0 + 0 - 0) l_L_build_182 rfl ?_
  refine lr _ (186, [some (.ref 1000000), some (.ref b), some (.int z), some (.int cr), some (.int (Int32.ofInt (kk : Int))), some (.int (s_at sc kk)), none, none], [.int (s_at sc kk)], M, c0 + 0 - 0, s0 + 0 - 0) l_L_build_184 rfl ?_
  refine lr _ (187, [some (.ref 1000000), some (.ref b), some (.int z), some (.int cr), some (.int (Int32.ofInt (kk : Int))), some (.int (s_at sc kk)), none, none], [.int 3, .int (s_at sc kk)], M, c0 + 0 - 0, s0 + 0 - 0) l_L_build_186 rfl ?_
  refine lr _ (188, [some (.ref 1000000), some (.ref b), some (.int z), some (.int cr), some (.int (Int32.ofInt (kk : Int))), some (.int (s_at sc kk)), none, none], [.int ((s_at sc kk) &&& 3)], M, c0 + 0 - 0, s0 + 0 - 0) l_L_build_187 rfl ?_
  refine lr _ (189, [some (.ref 1000000), some (.ref b), some (.int z), some (.int cr), some (.int (Int32.ofInt (kk : Int))), some (.int (s_at sc kk)), none, none], [.int 3, .int ((s_at sc kk) &&& 3)], M, c0 + 0 - 0, s0 + 0 - 0) l_L_build_188 rfl ?_
  refine ld _ (¬ 3 = 0) (190, [some (.ref 1000000), some (.ref b), some (.int z), some (.int cr), some (.int (Int32.ofInt (kk : Int))), some (.int (s_at sc kk)), none, none], [.int (((s_at sc kk) &&& 3) - ((s_at sc kk) &&& 3) / 3 * 3)], M, c0 + 0 - 0, s0 + 0 - 0) l_L_build_189 rfl (by decide) ?_
  refine lr _ (192, [some (.ref 1000000), some (.ref b), some (.int z), some (.int cr), some (.int (Int32.ofInt (kk : Int))), some (.int (s_at sc kk)), some (.int (((s_at sc kk) &&& 3) - ((s_at sc kk) &&& 3) / 3 * 3)), none], [], M, c0 + 0 - 0, s0 + 0 - 0) l_L_build_190 rfl ?_
  refine lr _ (194, [some (.ref 1000000), some (.ref b), some (.int z), some (.int cr), some (.int (Int32.ofInt (kk : Int))), some (.int (s_at sc kk)), some (.int (((s_at sc kk) &&& 3) - ((s_at sc kk) &&& 3) / 3 * 3)), none], [.int (s_at sc kk)], M, c0 + 0 - 0, s0 + 0 - 0) l_L_build_192 rfl ?_
  refine lr _ (195, [some (.ref 1000000), some (.ref b), some (.int z), some (.int cr), some (.int (Int32.ofInt (kk : Int))), some (.int (s_at sc kk)), some (.int (((s_at sc kk) &&& 3) - ((s_at sc kk) &&& 3) / 3 * 3)), none], [.int 2, .int (s_at sc kk)], M, c0 + 0 - 0, s0 + 0 - 0) l_L_build_194 rfl ?_
  refine lr _ (196, [some (.ref 1000000), some (.ref b), some (.int z), some (.int cr), some (.int (Int32.ofInt (kk : Int))), some (.int (s_at sc kk)), some (.int (((s_at sc kk) &&& 3) - ((s_at sc kk) &&& 3) / 3 * 3)), none], [.int ((s_at sc kk) >>> ((2 : Int32) &&& 31))], M, c0 + 0 - 0, s0 + 0 - 0) l_L_build_195 rfl ?_
  refine lr _ (198, [some (.ref 1000000), some (.ref b), some (.int z), some (.int cr), some (.int (Int32.ofInt (kk : Int))), some (.int (s_at sc kk)), some (.int (((s_at sc kk) &&& 3) - ((s_at sc kk) &&& 3) / 3 * 3)), none], [.int 7, .int ((s_at sc kk) >>> ((2 : Int32) &&& 31))], M, c0 + 0 - 0, s0 + 0 - 0) l_L_build_196 rfl ?_
  refine lr _ (199, [some (.ref 1000000), some (.ref b), some (.int z), some (.int cr), some (.int (Int32.ofInt (kk : Int))), some (.int (s_at sc kk)), some (.int (((s_at sc kk) &&& 3) - ((s_at sc kk) &&& 3) / 3 * 3)), none], [.int (((s_at sc kk) >>> ((2 : Int32) &&& 31)) &&& 7)], M, c0 + 0 - 0, s0 + 0 - 0) l_L_build_198 rfl ?_
  refine lr _ (200, [some (.ref 1000000), some (.ref b), some (.int z), some (.int cr), some (.int (Int32.ofInt (kk : Int))), some (.int (s_at sc kk)), some (.int (((s_at sc kk) &&& 3) - ((s_at sc kk) &&& 3) / 3 * 3)), none], [.int cr, .int (((s_at sc kk) >>> ((2 : Int32) &&& 31)) &&& 7)], M, c0 + 0 - 0, s0 + 0 - 0) l_L_build_199 rfl ?_
  refine ld _ (¬ cr = 0) (201, [some (.ref 1000000), some (.ref b), some (.int z), some (.int cr), some (.int (Int32.ofInt (kk : Int))), some (.int (s_at sc kk)), some (.int (((s_at sc kk) &&& 3) - ((s_at sc kk) &&& 3) / 3 * 3)), none], [.int ((((s_at sc kk) >>> ((2 : Int32) &&& 31)) &&& 7) - (((s_at sc kk) >>> ((2 : Int32) &&& 31)) &&& 7) / cr * cr)], M, c0 + 0 - 0, s0 + 0 - 0) l_L_build_200 rfl hcr ?_
  refine lr _ (203, [some (.ref 1000000), some (.ref b), some (.int z), some (.int cr), some (.int (Int32.ofInt (kk : Int))), some (.int (s_at sc kk)), some (.int (((s_at sc kk) &&& 3) - ((s_at sc kk) &&& 3) / 3 * 3)), some (.int ((((s_at sc kk) >>> ((2 : Int32) &&& 31)) &&& 7) - (((s_at sc kk) >>> ((2 : Int32) &&& 31)) &&& 7) / cr * cr))], [], M, c0 + 0 - 0, s0 + 0 - 0) l_L_build_201 rfl ?_
  exact K M (hO.up (by omega) hB) Fr.refl
theorem b4_z {z cr k c5 fe ca : Int32} (w : of_S) : Sg sc d_L_build 556 (fun b => [some (.ref 1000000), some (.ref b), some (.int z), some (.int cr), some (.int k), some (.int c5), some (.int fe), some (.int ca)]) w 169 (fun b => [some (.ref 1000000), some (.ref b), some (.int z), some (.int cr), some (.int (k + 1)), some (.int c5), some (.int fe), some (.int ca)]) w 0 0 0 := by
  intro b sb M B Qr Qx c0 s0 hO hB K
  show mw_Wp sc mw_Good d_L_build 300 (556, [some (.ref 1000000), some (.ref b), some (.int z), some (.int cr), some (.int k), some (.int c5), some (.int fe), some (.int ca)], [], M, c0 + 0, s0 + 0) Qr Qx
  refine lr _ (559, [some (.ref 1000000), some (.ref b), some (.int z), some (.int cr), some (.int (k + 1)), some (.int c5), some (.int fe), some (.int ca)], [], M, c0 + 0, s0 + 0) l_L_build_556 rfl ?_
  refine lr _ (169, [some (.ref 1000000), some (.ref b), some (.int z), some (.int cr), some (.int (k + 1)), some (.int c5), some (.int fe), some (.int ca)], [], M, c0 + 0, s0 + 0) l_L_build_559 rfl ?_
  exact K M (hO.up (by omega) hB) Fr.refl
theorem b4 {z cr : Int32} (hcr : ¬ cr = 0) (hs : sc.1 ≤ 1000) {kk : Nat} (hk : kk < 13) (w : of_S) : ∃ w', Sg sc d_L_build 169 (fun b => [some (.ref 1000000), some (.ref b), some (.int z), some (.int cr), some (.int (Int32.ofInt (kk : Int))), none, none, none]) w 169 (fun b => [some (.ref 1000000), some (.ref b), some (.int z), some (.int cr), some (.int (Int32.ofInt (kk : Int) + 1)), none, none, none]) w' 2200 176 1056 ∧ w'.2.2 = w.2.2 ∧ w'.1.1 5 ≤ w.1.1 5 + 1 := by
  obtain ⟨fe, ca, s0⟩ := b4_0 (z := z) hcr hk hs w
  obtain ⟨w1, s1, t1, g1⟩ := b4_203 (sc := sc) (z := z) (k := Int32.ofInt (kk : Int)) (c5 := s_at sc kk) (fe := fe) (ca := ca) hcr w
  obtain ⟨w2, s2, t2, g2⟩ := b4_237 (sc := sc) (z := z) (k := Int32.ofInt (kk : Int)) (c5 := s_at sc kk) (fe := fe) (ca := ca) hcr w1
  obtain ⟨w3, s3, t3, g3⟩ := b4_258 (sc := sc) (z := z) (k := Int32.ofInt (kk : Int)) (c5 := s_at sc kk) (fe := fe) (ca := ca) hcr w2
  obtain ⟨w4, s4, t4, g4⟩ := b4_279 (sc := sc) (z := z) (k := Int32.ofInt (kk : Int)) (c5 := s_at sc kk) (fe := fe) (ca := ca) hcr w3
  obtain ⟨w5, s5, t5, g5⟩ := b4_323 (sc := sc) (z := z) (k := Int32.ofInt (kk : Int)) (c5 := s_at sc kk) (fe := fe) (ca := ca) hcr w4
  obtain ⟨w6, s6, t6, g6⟩ := b4_366 (sc := sc) (z := z) (k := Int32.ofInt (kk : Int)) (c5 := s_at sc kk) (fe := fe) (ca := ca) hcr w5
  obtain ⟨w7, s7, t7, g7⟩ := b4_401 (sc := sc) (z := z) (k := Int32.ofInt (kk : Int)) (c5 := s_at sc kk) (fe := fe) (ca := ca) hcr w6
  obtain ⟨w8, s8, t8, g8⟩ := b4_423 (sc := sc) (z := z) (k := Int32.ofInt (kk : Int)) (c5 := s_at sc kk) (fe := fe) (ca := ca) hcr w7
  obtain ⟨w9, s9, t9, g9⟩ := b4_477 (sc := sc) (z := z) (k := Int32.ofInt (kk : Int)) (c5 := s_at sc kk) (fe := fe) (ca := ca) hcr w8
  obtain ⟨w10, s10, t10, g10⟩ := b4_507 (sc := sc) (z := z) (k := Int32.ofInt (kk : Int)) (c5 := s_at sc kk) (fe := fe) (ca := ca) hcr w9
  obtain ⟨w11, s11, t11, g11⟩ := b4_526 (sc := sc) (z := z) (k := Int32.ofInt (kk : Int)) (c5 := s_at sc kk) (fe := fe) (ca := ca) hcr w10
  have z1 := b4_z (sc := sc) (z := z) (cr := cr) (k := Int32.ofInt (kk : Int)) (c5 := s_at sc kk) (fe := fe) (ca := ca) w11
  have a0 := s0.trans s1 (by decide)
  have a1 := a0.trans s2 (by decide)
  have a2 := a1.trans s3 (by decide)
  have a3 := a2.trans s4 (by decide)
  have a4 := a3.trans s5 (by decide)
  have a5 := a4.trans s6 (by decide)
  have a6 := a5.trans s7 (by decide)
  have a7 := a6.trans s8 (by decide)
  have a8 := a7.trans s9 (by decide)
  have a9 := a8.trans s10 (by decide)
  have a10 := a9.trans s11 (by decide)
  have a11 := a10.trans z1 (by decide)
  refine ⟨w11, (a11.wk (L'' := (fun b => [some (.ref 1000000), some (.ref b), some (.int z), some (.int cr), some (.int (Int32.ofInt (kk : Int) + 1)), none, none, none])) (fun b => ⟨rfl, rfl, rfl, rfl, rfl, True.intro, True.intro, True.intro, True.intro⟩)).more (by decide) (by decide) (by decide), ((((((((((t11.trans t10).trans t9).trans t8).trans t7).trans t6).trans t5).trans t4).trans t3).trans t2).trans t1), by omega⟩
theorem t_build (hs : sc.1 ≤ 1000) : ∃ w', (w'.2.2 = of_0.2.2 ∧ w'.1.1 5 ≤ 12) ∧ ∀ (M : mw_Mem) (Qr : Option Value → mw_Mem → Prop) (Qx : Nat → mw_Mem → Prop), (∀ M', Off M.2.2.2.2.2 302 M' w' 40000 → M.2.2.2.2.2 ≤ M'.2.2.2.2.2 → (∀ x, x < M.2.2.2.2.2 → hq M M' x) → KN M M' → Qr (some (.ref M.2.2.2.2.2)) M') → mw_Wp sc mw_Good d_L_build 300 (0, [some (.ref 1000000), none, none, none, none, none, none, none], [], M, 5000, 30000) Qr Qx := by
  obtain ⟨z, hz⟩ : ∃ z, z = s_at sc 0 := ⟨_, rfl⟩
  obtain ⟨m, hm, m3, m5⟩ := i_cr z
  obtain ⟨cr, hcre⟩ : ∃ cr, cr = Int32.ofInt m := ⟨_, rfl⟩
  rw [← hcre] at hm
  have hcr : ¬ cr = 0 := by
    rw [hcre]
    exact nw_nz ⟨by omega, by omega⟩ (by omega)
  have hle : ∀ i : Int, 0 ≤ i → i ≤ 100 → (cr ≤ Int32.ofInt i ↔ m ≤ i) := fun i i0 i1 => by
    rw [hcre, nw_le ⟨by omega, by omega⟩ ⟨by omega, by omega⟩]
  obtain ⟨i1, w1, s1, t1, g1⟩ := Sg.loop (sc := sc) (cd := d_L_build) (H := 25) (X := 58) (L := (fun (k : Int32) (b : Nat) => [some (.ref 1000000), some (.ref b), some (.int z), some (.int cr), some (.int k), none, none, none])) (P := fun k => cr ≤ k) (m := m) (lo := 0) (μ := 0) (δ := 200) (c := 16) (s := 96) (by decide) (by omega) (by decide) (by decide) (fun i w i0 i1 q => b1 q w) (fun i w q => e1 q w) ((hle m (by omega) (by omega)).mpr (Int.le_refl _)) 5 0 of_0 (by decide) (by omega) (by omega)
  obtain ⟨i2, w2, s2, t2, g2⟩ := Sg.loop (sc := sc) (cd := d_L_build) (H := 61) (X := 111) (L := (fun (k : Int32) (b : Nat) => [some (.ref 1000000), some (.ref b), some (.int z), some (.int cr), some (.int k), none, none, none])) (P := fun k => cr ≤ k) (m := m) (lo := 1) (μ := 0) (δ := 200) (c := 16) (s := 96) (by decide) (by omega) (by decide) (by decide) (fun i w i0 i1 q => b2 (nw_nz ⟨by omega, by omega⟩ (by omega)) q w) (fun i w q => e2 q w) ((hle m (by omega) (by omega)).mpr (Int.le_refl _)) 5 1 w1 (by decide) (by omega) (by omega)
  obtain ⟨i3, w3, s3, t3, g3⟩ := Sg.loop (sc := sc) (cd := d_L_build) (H := 114) (X := 166) (L := (fun (k : Int32) (b : Nat) => [some (.ref 1000000), some (.ref b), some (.int z), some (.int cr), some (.int k), none, none, none])) (P := fun k => 3 ≤ k) (m := 3) (lo := 0) (μ := 0) (δ := 200) (c := 16) (s := 96) (by decide) (by decide) (by decide) (by decide) (fun i w i0 i1 q => b3 hcr q w) (fun i w q => e3 q w) (by decide) 3 0 w2 (by decide) (by decide) (by decide)
  obtain ⟨i4, w4, s4, t4, g4⟩ := Sg.loop (sc := sc) (cd := d_L_build) (H := 169) (X := 562) (L := (fun (k : Int32) (b : Nat) => [some (.ref 1000000), some (.ref b), some (.int z), some (.int cr), some (.int k), none, none, none])) (P := fun k => 13 ≤ k) (m := 13) (lo := 1) (μ := 1) (δ := 2200) (c := 176) (s := 1056) (by decide) (by decide) (by decide) (by decide) (fun i w i0 i1 q => by
    obtain ⟨kk, rfl⟩ := Int.eq_ofNat_of_zero_le (show 0 ≤ i by omega)
    exact b4 (z := z) hcr hs (by omega) w) (fun i w q => e4 q w) (by decide) 12 1 w3 (by decide) (by decide) (by decide)
  refine ⟨w4, ⟨t4.trans (t3.trans (t2.trans t1)), ?_⟩, fun M Qr Qx K => ?_⟩
  · have g0 : of_0.1.1 5 = 0 := rfl
    omega
  have S := ((((((s1.trans (k1 (cr := cr) w1) (by decide)).trans s2 (by decide)).trans (k2 (cr := cr) w2) (by decide)).trans s3 (by decide)).trans (k3 (cr := cr) w3) (by decide)).trans s4 (by decide)).more (ε := 40000) (c2 := 4500) (s2 := 27000) (by decide) (by decide) (by decide)
  refine mw_Wp.fact (fun hM => ?_)
  have hM : M.2.2.2.2.2 ≤ 990000 := hM
  refine lr _ (3, [some (.ref 1000000), none, none, none, none, none, none, none], [.ref M.2.2.2.2.2], (mw_ncell M (15, 13)), 4999, 29987) l_L_build_0 rfl ?_
  refine lr _ (4, [some (.ref 1000000), none, none, none, none, none, none, none], [.ref M.2.2.2.2.2, .ref M.2.2.2.2.2], (mw_ncell M (15, 13)), 4999, 29987) l_L_build_3 rfl ?_
  refine lc_init hM l_L_build_4 rfl rfl rfl (by decide) (by decide) (by decide) rfl rfl (fun R9 h9 => ⟨_, rfl, fun z9 => absurd z9 (by decide)⟩) (fun M1 O1 n1 q1 k1 => ?_)
  show mw_Wp sc mw_Good d_L_build 300 (7, [some (.ref 1000000), none, none, none, none, none, none, none], [.ref M.2.2.2.2.2], M1, 4697, 27264) Qr Qx
  refine lr _ (8, [some (.ref 1000000), some (.ref M.2.2.2.2.2), none, none, none, none, none, none], [], M1, 4697, 27264) l_L_build_7 rfl ?_
  refine lr _ (9, [some (.ref 1000000), some (.ref M.2.2.2.2.2), none, none, none, none, none, none], [.ref 1000000], M1, 4697, 27264) l_L_build_8 rfl ?_
  refine lr _ (10, [some (.ref 1000000), some (.ref M.2.2.2.2.2), none, none, none, none, none, none], [.int 0, .ref 1000000], M1, 4697, 27264) l_L_build_9 rfl ?_
  refine mw_Wp.cal _ d_L_at 0 0 0 l_L_build_10 rfl rfl g_L_at (by decide) (Nat.zero_le _) (Nat.zero_le _) True.intro ?_
  refine t_at (k := 0) (by decide) hs ?_
  rw [← hz]
  show mw_Wp sc mw_Good d_L_build 300 (13, [some (.ref 1000000), some (.ref M.2.2.2.2.2), none, none, none, none, none, none], [.int z], M1, 4697, 27264) Qr Qx
  refine lr _ (14, [some (.ref 1000000), some (.ref M.2.2.2.2.2), some (.int z), none, none, none, none, none], [], M1, 4697, 27264) l_L_build_13 rfl ?_
  refine lr _ (15, [some (.ref 1000000), some (.ref M.2.2.2.2.2), some (.int z), none, none, none, none, none], [.int 3], M1, 4697, 27264) l_L_build_14 rfl ?_
  refine lr _ (16, [some (.ref 1000000), some (.ref M.2.2.2.2.2), some (.int z), none, none, none, none, none], [.int z, .int 3], M1, 4697, 27264) l_L_build_15 rfl ?_
  refine lr _ (17, [some (.ref 1000000), some (.ref M.2.2.2.2.2), some (.int z), none, none, none, none, none], [.int 3, .int z, .int 3], M1, 4697, 27264) l_L_build_16 rfl ?_
  refine lr _ (18, [some (.ref 1000000), some (.ref M.2.2.2.2.2), some (.int z), none, none, none, none, none], [.int (z &&& 3), .int 3], M1, 4697, 27264) l_L_build_17 rfl ?_
  refine lr _ (19, [some (.ref 1000000), some (.ref M.2.2.2.2.2), some (.int z), none, none, none, none, none], [.int 3, .int (z &&& 3), .int 3], M1, 4697, 27264) l_L_build_18 rfl ?_
  refine ld _ (¬ 3 = 0) (20, [some (.ref 1000000), some (.ref M.2.2.2.2.2), some (.int z), none, none, none, none, none], [.int ((z &&& 3) - (z &&& 3) / 3 * 3), .int 3], M1, 4697, 27264) l_L_build_19 rfl (by decide) ?_
  refine lr _ (21, [some (.ref 1000000), some (.ref M.2.2.2.2.2), some (.int z), none, none, none, none, none], [.int (3 + ((z &&& 3) - (z &&& 3) / 3 * 3))], M1, 4697, 27264) l_L_build_20 rfl ?_
  rw [hm]
  refine lr _ (22, [some (.ref 1000000), some (.ref M.2.2.2.2.2), some (.int z), some (.int cr), none, none, none, none], [], M1, 4697, 27264) l_L_build_21 rfl ?_
  refine lr _ (23, [some (.ref 1000000), some (.ref M.2.2.2.2.2), some (.int z), some (.int cr), none, none, none, none], [.int 0], M1, 4697, 27264) l_L_build_22 rfl ?_
  refine lr _ (25, [some (.ref 1000000), some (.ref M.2.2.2.2.2), some (.int z), some (.int cr), some (.int 0), none, none, none], [], M1, 4697, 27264) l_L_build_23 rfl ?_
  rw [show (0 : Int32) = Int32.ofInt 0 from rfl]
  refine mw_Wp.less (c' := 0 + 4500) (s' := 0 + 27000) (Nat.le_refl _) (by decide) (by decide) (S M.2.2.2.2.2 302 M1 0 Qr Qx 0 0 O1 (by decide) (fun M2 O2 F2 => ?_))
  show mw_Wp sc mw_Good d_L_build 300 (562, [some (.ref 1000000), some (.ref M.2.2.2.2.2), some (.int z), some (.int cr), some (.int (Int32.ofInt i4)), none, none, none], [], M2, 0, 0) Qr Qx
  refine lr _ (563, [some (.ref 1000000), some (.ref M.2.2.2.2.2), some (.int z), some (.int cr), some (.int (Int32.ofInt i4)), none, none, none], [.ref M.2.2.2.2.2], M2, 0, 0) l_L_build_562 rfl ?_
  rw [Int.zero_add] at O2
  exact lt_ret _ (some (.ref M.2.2.2.2.2)) l_L_build_563 rfl (K M2 O2 (Nat.le_trans n1 F2.1) (fun x hx => (q1 x hx).trans (F2.2.1 x (by omega) (by omega) (by omega))) (fun x a e => F2.2.2 x a (k1 x a e)))
end
