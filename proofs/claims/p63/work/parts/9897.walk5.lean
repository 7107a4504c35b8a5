/-! the law walked: ten texts that are none -/
section
variable {sc : Nat × (Nat → Int32)} {M : mw_Mem} {Qr : Option Value → mw_Mem → Prop} {Qx : Nat → mw_Mem → Prop} {w : of_S}
theorem w_5 {b1 b2 : Nat} {v x3 : Int32} (hw : w.2.2.1.1 = 0) (hm : w.2.1.2.2 = 0) (O1 : Off b1 302 M w 60000) (hkn : ∀ x, 1000000 ≤ x → M.2.2.2.2.1 x = none) (hv : SV sc w.1.1 v)
    (K : ∀ (w' : of_S) (M' : mw_Mem), Off b1 302 M' w' 90000 → w'.1 = w.1 → (∀ x, 1000000 ≤ x → M'.2.2.2.2.1 x = none) → mw_Wp sc mw_Good d_L_law 400 (316, [some (.ref 1000000), some (.ref b1), some (.ref b2), some (.int x3), some (.int v), none, none, none, none], [], M', 18224, 119344) Qr Qx) : mw_Wp sc mw_Good d_L_law 400 (188, [some (.ref 1000000), some (.ref b1), some (.ref b2), some (.int x3), some (.int v), none, none, none, none], [], M, 22228, 143368) Qr Qx := by
  refine lr _ (189, [some (.ref 1000000), some (.ref b1), some (.ref b2), some (.int x3), some (.int v), none, none, none, none], [.ref b1], M, 22228, 143368) l_L_law_188 rfl ?_
  refine lr _ (191, [some (.ref 1000000), some (.ref b1), some (.ref b2), some (.int x3), some (.int v), none, none, none, none], [.ref 1000014, .ref b1], M, 22228, 143368) l_L_law_189 rfl ?_
  refine lr _ (192, [some (.ref 1000000), some (.ref b1), some (.ref b2), some (.int x3), some (.int v), none, none, none, none], [.int 1, .ref 1000014, .ref b1], M, 22228, 143368) l_L_law_191 rfl ?_
  refine mw_Wp.cal _ d_L_fails 30 300 1800 l_L_law_192 rfl rfl g_L_fails (by decide) (by decide) (by decide) True.intro ?_
  refine t_fails (l := ts_13) (f := fun k => ts_13.getD k 0) (p := 1) O1 (by omega) hw (by decide) (fun k hk => rfl) (ts_Str (M := M) ok_13).2.2 (fun M9 F9 => (ts_Str ok_13).1) y_13 (by decide) (fun M1_ A1_ F1_ => ?_)
  show mw_Wp sc mw_Good d_L_law 400 (195, [some (.ref 1000000), some (.ref b1), some (.ref b2), some (.int x3), some (.int v), none, none, none, none], [.int 1], M1_, 21928, 141568) Qr Qx
  have hn1 : ∀ x, 1000000 ≤ x → M1_.2.2.2.2.1 x = none := fun x a => F1_.2.2 x a (hkn x a)
  refine lbF _ (1 = 0) (314, [some (.ref 1000000), some (.ref b1), some (.ref b2), some (.int x3), some (.int v), none, none, none, none], [], M1_, 21928, 141568) (198, [some (.ref 1000000), some (.ref b1), some (.ref b2), some (.int x3), some (.int v), none, none, none, none], [], M1_, 21928, 141568) l_L_law_195 rfl (by decide) ?_
  refine lr _ (199, [some (.ref 1000000), some (.ref b1), some (.ref b2), some (.int x3), some (.int v), none, none, none, none], [.ref b1], M1_, 21928, 141568) l_L_law_198 rfl ?_
  refine lr _ (201, [some (.ref 1000000), some (.ref b1), some (.ref b2), some (.int x3), some (.int v), none, none, none, none], [.ref 1000015, .ref b1], M1_, 21928, 141568) l_L_law_199 rfl ?_
  refine lr _ (202, [some (.ref 1000000), some (.ref b1), some (.ref b2), some (.int x3), some (.int v), none, none, none, none], [.int 1, .ref 1000015, .ref b1], M1_, 21928, 141568) l_L_law_201 rfl ?_
  refine mw_Wp.cal _ d_L_fails 30 300 1800 l_L_law_202 rfl rfl g_L_fails (by decide) (by decide) (by decide) True.intro ?_
  refine t_fails (l := ts_14) (f := fun k => ts_14.getD k 0) (p := 1) A1_ (by omega) rfl (by decide) (fun k hk => rfl) (ts_Str (M := M1_) ok_14).2.2 (fun M9 F9 => (ts_Str ok_14).1) y_14 (by decide) (fun M2_ A2_ F2_ => ?_)
  show mw_Wp sc mw_Good d_L_law 400 (205, [some (.ref 1000000), some (.ref b1), some (.ref b2), some (.int x3), some (.int v), none, none, none, none], [.int 1], M2_, 21628, 139768) Qr Qx
  have hn2 : ∀ x, 1000000 ≤ x → M2_.2.2.2.2.1 x = none := fun x a => F2_.2.2 x a (hn1 x a)
  refine lbF _ (1 = 0) (314, [some (.ref 1000000), some (.ref b1), some (.ref b2), some (.int x3), some (.int v), none, none, none, none], [], M2_, 21628, 139768) (208, [some (.ref 1000000), some (.ref b1), some (.ref b2), some (.int x3), some (.int v), none, none, none, none], [], M2_, 21628, 139768) l_L_law_205 rfl (by decide) ?_
  refine lr _ (209, [some (.ref 1000000), some (.ref b1), some (.ref b2), some (.int x3), some (.int v), none, none, none, none], [.ref b1], M2_, 21628, 139768) l_L_law_208 rfl ?_
  refine lr _ (211, [some (.ref 1000000), some (.ref b1), some (.ref b2), some (.int x3), some (.int v), none, none, none, none], [.ref 1000016, .ref b1], M2_, 21628, 139768) l_L_law_209 rfl ?_
  refine lr _ (213, [some (.ref 1000000), some (.ref b1), some (.ref b2), some (.int x3), some (.int v), none, none, none, none], [.int 9, .ref 1000016, .ref b1], M2_, 21628, 139768) l_L_law_211 rfl ?_
  refine mw_Wp.cal _ d_L_fails 30 300 1800 l_L_law_213 rfl rfl g_L_fails (by decide) (by decide) (by decide) True.intro ?_
  refine t_fails (l := ts_15) (f := fun k => ts_15.getD k 0) (p := 9) A2_ (by omega) rfl (by decide) (fun k hk => rfl) (ts_Str (M := M2_) ok_15).2.2 (fun M9 F9 => (ts_Str ok_15).1) y_15 (by decide) (fun M3_ A3_ F3_ => ?_)
  show mw_Wp sc mw_Good d_L_law 400 (216, [some (.ref 1000000), some (.ref b1), some (.ref b2), some (.int x3), some (.int v), none, none, none, none], [.int 1], M3_, 21328, 137968) Qr Qx
  have hn3 : ∀ x, 1000000 ≤ x → M3_.2.2.2.2.1 x = none := fun x a => F3_.2.2 x a (hn2 x a)
  refine lbF _ (1 = 0) (314, [some (.ref 1000000), some (.ref b1), some (.ref b2), some (.int x3), some (.int v), none, none, none, none], [], M3_, 21328, 137968) (219, [some (.ref 1000000), some (.ref b1), some (.ref b2), some (.int x3), some (.int v), none, none, none, none], [], M3_, 21328, 137968) l_L_law_216 rfl (by decide) ?_
  refine lr _ (220, [some (.ref 1000000), some (.ref b1), some (.ref b2), some (.int x3), some (.int v), none, none, none, none], [.ref b1], M3_, 21328, 137968) l_L_law_219 rfl ?_
  refine lr _ (222, [some (.ref 1000000), some (.ref b1), some (.ref b2), some (.int x3), some (.int v), none, none, none, none], [.ref 1000017, .ref b1], M3_, 21328, 137968) l_L_law_220 rfl ?_
  refine lr _ (224, [some (.ref 1000000), some (.ref b1), some (.ref b2), some (.int x3), some (.int v), none, none, none, none], [.int 9, .ref 1000017, .ref b1], M3_, 21328, 137968) l_L_law_222 rfl ?_
  refine mw_Wp.cal _ d_L_fails 30 300 1800 l_L_law_224 rfl rfl g_L_fails (by decide) (by decide) (by decide) True.intro ?_
  refine t_fails (l := ts_16) (f := fun k => ts_16.getD k 0) (p := 9) A3_ (by omega) rfl (by decide) (fun k hk => rfl) (ts_Str (M := M3_) ok_16).2.2 (fun M9 F9 => (ts_Str ok_16).1) y_16 (by decide) (fun M4_ A4_ F4_ => ?_)
  show mw_Wp sc mw_Good d_L_law 400 (227, [some (.ref 1000000), some (.ref b1), some (.ref b2), some (.int x3), some (.int v), none, none, none, none], [.int 1], M4_, 21028, 136168) Qr Qx
  have hn4 : ∀ x, 1000000 ≤ x → M4_.2.2.2.2.1 x = none := fun x a => F4_.2.2 x a (hn3 x a)
  refine lbF _ (1 = 0) (314, [some (.ref 1000000), some (.ref b1), some (.ref b2), some (.int x3), some (.int v), none, none, none, none], [], M4_, 21028, 136168) (230, [some (.ref 1000000), some (.ref b1), some (.ref b2), some (.int x3), some (.int v), none, none, none, none], [], M4_, 21028, 136168) l_L_law_227 rfl (by decide) ?_
  refine lr _ (231, [some (.ref 1000000), some (.ref b1), some (.ref b2), some (.int x3), some (.int v), none, none, none, none], [.ref b1], M4_, 21028, 136168) l_L_law_230 rfl ?_
  refine lr _ (233, [some (.ref 1000000), some (.ref b1), some (.ref b2), some (.int x3), some (.int v), none, none, none, none], [.ref 1000018, .ref b1], M4_, 21028, 136168) l_L_law_231 rfl ?_
  refine lr _ (235, [some (.ref 1000000), some (.ref b1), some (.ref b2), some (.int x3), some (.int v), none, none, none, none], [.int 7, .ref 1000018, .ref b1], M4_, 21028, 136168) l_L_law_233 rfl ?_
  refine mw_Wp.cal _ d_L_fails 30 300 1800 l_L_law_235 rfl rfl g_L_fails (by decide) (by decide) (by decide) True.intro ?_
  refine t_fails (l := ts_17) (f := fun k => ts_17.getD k 0) (p := 7) A4_ (by omega) rfl (by decide) (fun k hk => rfl) (ts_Str (M := M4_) ok_17).2.2 (fun M9 F9 => (ts_Str ok_17).1) y_17 (by decide) (fun M5_ A5_ F5_ => ?_)
  show mw_Wp sc mw_Good d_L_law 400 (238, [some (.ref 1000000), some (.ref b1), some (.ref b2), some (.int x3), some (.int v), none, none, none, none], [.int 1], M5_, 20728, 134368) Qr Qx
  have hn5 : ∀ x, 1000000 ≤ x → M5_.2.2.2.2.1 x = none := fun x a => F5_.2.2 x a (hn4 x a)
  refine lbF _ (1 = 0) (314, [some (.ref 1000000), some (.ref b1), some (.ref b2), some (.int x3), some (.int v), none, none, none, none], [], M5_, 20728, 134368) (241, [some (.ref 1000000), some (.ref b1), some (.ref b2), some (.int x3), some (.int v), none, none, none, none], [], M5_, 20728, 134368) l_L_law_238 rfl (by decide) ?_
  refine lr _ (242, [some (.ref 1000000), some (.ref b1), some (.ref b2), some (.int x3), some (.int v), none, none, none, none], [.ref b1], M5_, 20728, 134368) l_L_law_241 rfl ?_
  refine lr _ (244, [some (.ref 1000000), some (.ref b1), some (.ref b2), some (.int x3), some (.int v), none, none, none, none], [.ref 1000019, .ref b1], M5_, 20728, 134368) l_L_law_242 rfl ?_
  refine lr _ (245, [some (.ref 1000000), some (.ref b1), some (.ref b2), some (.int x3), some (.int v), none, none, none, none], [.int 0, .ref 1000019, .ref b1], M5_, 20728, 134368) l_L_law_244 rfl ?_
  refine mw_Wp.cal _ d_L_fails 30 300 1800 l_L_law_245 rfl rfl g_L_fails (by decide) (by decide) (by decide) True.intro ?_
  refine t_fails (l := ts_18) (f := fun k => ts_18.getD k 0) (p := 0) A5_ (by omega) rfl (by decide) (fun k hk => rfl) (ts_Str (M := M5_) ok_18).2.2 (fun M9 F9 => (ts_Str ok_18).1) y_18 (by decide) (fun M6_ A6_ F6_ => ?_)
  show mw_Wp sc mw_Good d_L_law 400 (248, [some (.ref 1000000), some (.ref b1), some (.ref b2), some (.int x3), some (.int v), none, none, none, none], [.int 1], M6_, 20428, 132568) Qr Qx
  have hn6 : ∀ x, 1000000 ≤ x → M6_.2.2.2.2.1 x = none := fun x a => F6_.2.2 x a (hn5 x a)
  refine lbF _ (1 = 0) (314, [some (.ref 1000000), some (.ref b1), some (.ref b2), some (.int x3), some (.int v), none, none, none, none], [], M6_, 20428, 132568) (251, [some (.ref 1000000), some (.ref b1), some (.ref b2), some (.int x3), some (.int v), none, none, none, none], [], M6_, 20428, 132568) l_L_law_248 rfl (by decide) ?_
  refine lr _ (252, [some (.ref 1000000), some (.ref b1), some (.ref b2), some (.int x3), some (.int v), none, none, none, none], [.ref b1], M6_, 20428, 132568) l_L_law_251 rfl ?_
  refine lr _ (255, [some (.ref 1000000), some (.ref b1), some (.ref b2), some (.int x3), some (.int v), none, none, none, none], [.ref 1000020, .ref b1], M6_, 20428, 132568) l_L_law_252 rfl ?_
  refine lr _ (257, [some (.ref 1000000), some (.ref b1), some (.ref b2), some (.int x3), some (.int v), none, none, none, none], [.int 7, .ref 1000020, .ref b1], M6_, 20428, 132568) l_L_law_255 rfl ?_
  refine mw_Wp.cal _ d_L_fails 30 300 1800 l_L_law_257 rfl rfl g_L_fails (by decide) (by decide) (by decide) True.intro ?_
  refine t_fails (l := ts_19) (f := fun k => ts_19.getD k 0) (p := 7) A6_ (by omega) rfl (by decide) (fun k hk => rfl) (ts_Str (M := M6_) ok_19).2.2 (fun M9 F9 => (ts_Str ok_19).1) y_19 (by decide) (fun M7_ A7_ F7_ => ?_)
  show mw_Wp sc mw_Good d_L_law 400 (260, [some (.ref 1000000), some (.ref b1), some (.ref b2), some (.int x3), some (.int v), none, none, none, none], [.int 1], M7_, 20128, 130768) Qr Qx
  have hn7 : ∀ x, 1000000 ≤ x → M7_.2.2.2.2.1 x = none := fun x a => F7_.2.2 x a (hn6 x a)
  refine lbF _ (1 = 0) (314, [some (.ref 1000000), some (.ref b1), some (.ref b2), some (.int x3), some (.int v), none, none, none, none], [], M7_, 20128, 130768) (263, [some (.ref 1000000), some (.ref b1), some (.ref b2), some (.int x3), some (.int v), none, none, none, none], [], M7_, 20128, 130768) l_L_law_260 rfl (by decide) ?_
  refine lr _ (264, [some (.ref 1000000), some (.ref b1), some (.ref b2), some (.int x3), some (.int v), none, none, none, none], [.ref b1], M7_, 20128, 130768) l_L_law_263 rfl ?_
  refine lr _ (267, [some (.ref 1000000), some (.ref b1), some (.ref b2), some (.int x3), some (.int v), none, none, none, none], [.ref 1000021, .ref b1], M7_, 20128, 130768) l_L_law_264 rfl ?_
  refine lr _ (269, [some (.ref 1000000), some (.ref b1), some (.ref b2), some (.int x3), some (.int v), none, none, none, none], [.int 7, .ref 1000021, .ref b1], M7_, 20128, 130768) l_L_law_267 rfl ?_
  refine mw_Wp.cal _ d_L_fails 30 300 1800 l_L_law_269 rfl rfl g_L_fails (by decide) (by decide) (by decide) True.intro ?_
  refine t_fails (l := ts_20) (f := fun k => ts_20.getD k 0) (p := 7) A7_ (by omega) rfl (by decide) (fun k hk => rfl) (ts_Str (M := M7_) ok_20).2.2 (fun M9 F9 => (ts_Str ok_20).1) y_20 (by decide) (fun M8_ A8_ F8_ => ?_)
  show mw_Wp sc mw_Good d_L_law 400 (272, [some (.ref 1000000), some (.ref b1), some (.ref b2), some (.int x3), some (.int v), none, none, none, none], [.int 1], M8_, 19828, 128968) Qr Qx
  have hn8 : ∀ x, 1000000 ≤ x → M8_.2.2.2.2.1 x = none := fun x a => F8_.2.2 x a (hn7 x a)
  refine lbF _ (1 = 0) (314, [some (.ref 1000000), some (.ref b1), some (.ref b2), some (.int x3), some (.int v), none, none, none, none], [], M8_, 19828, 128968) (275, [some (.ref 1000000), some (.ref b1), some (.ref b2), some (.int x3), some (.int v), none, none, none, none], [], M8_, 19828, 128968) l_L_law_272 rfl (by decide) ?_
  refine lr _ (276, [some (.ref 1000000), some (.ref b1), some (.ref b2), some (.int x3), some (.int v), none, none, none, none], [.ref b1], M8_, 19828, 128968) l_L_law_275 rfl ?_
  refine lr _ (279, [some (.ref 1000000), some (.ref b1), some (.ref b2), some (.int x3), some (.int v), none, none, none, none], [.ref 1000022, .ref b1], M8_, 19828, 128968) l_L_law_276 rfl ?_
  refine lr _ (281, [some (.ref 1000000), some (.ref b1), some (.ref b2), some (.int x3), some (.int v), none, none, none, none], [.int 9, .ref 1000022, .ref b1], M8_, 19828, 128968) l_L_law_279 rfl ?_
  refine mw_Wp.cal _ d_L_fails 30 300 1800 l_L_law_281 rfl rfl g_L_fails (by decide) (by decide) (by decide) True.intro ?_
  refine t_fails (l := ts_21) (f := fun k => ts_21.getD k 0) (p := 9) A8_ (by omega) rfl (by decide) (fun k hk => rfl) (ts_Str (M := M8_) ok_21).2.2 (fun M9 F9 => (ts_Str ok_21).1) y_21 (by decide) (fun M9_ A9_ F9_ => ?_)
  show mw_Wp sc mw_Good d_L_law 400 (284, [some (.ref 1000000), some (.ref b1), some (.ref b2), some (.int x3), some (.int v), none, none, none, none], [.int 1], M9_, 19528, 127168) Qr Qx
  have hn9 : ∀ x, 1000000 ≤ x → M9_.2.2.2.2.1 x = none := fun x a => F9_.2.2 x a (hn8 x a)
  refine lbF _ (1 = 0) (314, [some (.ref 1000000), some (.ref b1), some (.ref b2), some (.int x3), some (.int v), none, none, none, none], [], M9_, 19528, 127168) (287, [some (.ref 1000000), some (.ref b1), some (.ref b2), some (.int x3), some (.int v), none, none, none, none], [], M9_, 19528, 127168) l_L_law_284 rfl (by decide) ?_
  refine lr _ (288, [some (.ref 1000000), some (.ref b1), some (.ref b2), some (.int x3), some (.int v), none, none, none, none], [.ref b1], M9_, 19528, 127168) l_L_law_287 rfl ?_
  refine lr _ (291, [some (.ref 1000000), some (.ref b1), some (.ref b2), some (.int x3), some (.int v), none, none, none, none], [.ref 1000023, .ref b1], M9_, 19528, 127168) l_L_law_288 rfl ?_
  refine lr _ (292, [some (.ref 1000000), some (.ref b1), some (.ref b2), some (.int x3), some (.int v), none, none, none, none], [.int 0, .ref 1000023, .ref b1], M9_, 19528, 127168) l_L_law_291 rfl ?_
  refine mw_Wp.cal _ d_L_fails 30 300 1800 l_L_law_292 rfl rfl g_L_fails (by decide) (by decide) (by decide) True.intro ?_
  refine t_fails (l := ts_22) (f := fun k => ts_22.getD k 0) (p := 0) A9_ (by omega) rfl (by decide) (fun k hk => rfl) (ts_Str (M := M9_) ok_22).2.2 (fun M9 F9 => (ts_Str ok_22).1) y_22 (by decide) (fun M10_ A10_ F10_ => ?_)
  show mw_Wp sc mw_Good d_L_law 400 (295, [some (.ref 1000000), some (.ref b1), some (.ref b2), some (.int x3), some (.int v), none, none, none, none], [.int 1], M10_, 19228, 125368) Qr Qx
  have hn10 : ∀ x, 1000000 ≤ x → M10_.2.2.2.2.1 x = none := fun x a => F10_.2.2 x a (hn9 x a)
  refine lbF _ (1 = 0) (314, [some (.ref 1000000), some (.ref b1), some (.ref b2), some (.int x3), some (.int v), none, none, none, none], [], M10_, 19228, 125368) (298, [some (.ref 1000000), some (.ref b1), some (.ref b2), some (.int x3), some (.int v), none, none, none, none], [], M10_, 19228, 125368) l_L_law_295 rfl (by decide) ?_
  refine lr _ (299, [some (.ref 1000000), some (.ref b1), some (.ref b2), some (.int x3), some (.int v), none, none, none, none], [.ref b1], M10_, 19228, 125368) l_L_law_298 rfl ?_
  refine lc_call [] (o_failedCommand (p := 0) (by exact hm) (by decide)) A10_ (by omega) l_L_law_299 rfl rfl g_X11_failedCommand (by decide) (by decide) (by decide) rfl rfl (fun R9 h9 => Or.inl ⟨_, _, rfl, h9⟩) (of_v_nr _) (fun M11_ A11_ F11_ => ?_)
  show mw_Wp sc mw_Good d_L_law 400 (302, [some (.ref 1000000), some (.ref b1), some (.ref b2), some (.int x3), some (.int v), none, none, none, none], [.int (Int32.ofInt 0)], M11_, 19224, 125344) Qr Qx
  have hn11 : ∀ x, 1000000 ≤ x → M11_.2.2.2.2.1 x = none := fun x a => F11_.2.2 x a (hn10 x a)
  refine lbF _ (¬ (Int32.ofInt 0) = 0) (314, [some (.ref 1000000), some (.ref b1), some (.ref b2), some (.int x3), some (.int v), none, none, none, none], [], M11_, 19224, 125344) (305, [some (.ref 1000000), some (.ref b1), some (.ref b2), some (.int x3), some (.int v), none, none, none, none], [], M11_, 19224, 125344) l_L_law_302 rfl (by decide) ?_
  refine lr _ (306, [some (.ref 1000000), some (.ref b1), some (.ref b2), some (.int x3), some (.int v), none, none, none, none], [.ref b1], M11_, 19224, 125344) l_L_law_305 rfl ?_
  refine mw_Wp.cal _ d_L_state 300 1000 6000 l_L_law_306 rfl rfl g_L_state (by decide) (by decide) (by decide) True.intro ?_
  refine hv _ b1 302 _ _ _ _ ?_ A11_ (by omega) hn11 (fun M12_ A12_ F12_ => ?_)
  · rfl
  show mw_Wp sc mw_Good d_L_law 400 (309, [some (.ref 1000000), some (.ref b1), some (.ref b2), some (.int x3), some (.int v), none, none, none, none], [.int v], M12_, 18224, 119344) Qr Qx
  have hn12 : ∀ x, 1000000 ≤ x → M12_.2.2.2.2.1 x = none := fun x a => F12_.2.2 x a (hn11 x a)
  refine lr _ (311, [some (.ref 1000000), some (.ref b1), some (.ref b2), some (.int x3), some (.int v), none, none, none, none], [.int v, .int v], M12_, 18224, 119344) l_L_law_309 rfl ?_
  refine lbT _ (v = v) (316, [some (.ref 1000000), some (.ref b1), some (.ref b2), some (.int x3), some (.int v), none, none, none, none], [], M12_, 18224, 119344) (314, [some (.ref 1000000), some (.ref b1), some (.ref b2), some (.int x3), some (.int v), none, none, none, none], [], M12_, 18224, 119344) l_L_law_311 rfl rfl ?_
  exact K _ _ (A12_.up (by omega) (by omega)) rfl hn12
end
