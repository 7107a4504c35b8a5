/-! the law walked: the text of three passes, and three passes -/
def SV (sc : Nat × (Nat → Int32)) (g : Int → Int) (v : Int32) : Prop := ∀ (w : of_S) (b sb : Nat) (M : mw_Mem) (B : Int) (Qr : Option Value → mw_Mem → Prop) (Qx : Nat → mw_Mem → Prop), w.1.1 = g → Off b sb M w B → B ≤ 4000000 → (∀ x, 1000000 ≤ x → M.2.2.2.2.1 x = none) → (∀ M', Off b sb M' w B → Fr b sb M M' → Qr (some (.int v)) M') → mw_Wp sc mw_Good d_L_state 300 (0, [some (.ref b), none, none, none], [], M, 1000, 6000) Qr Qx
theorem w_nn {v : Int} (h : 0 ≤ v ∧ v ≤ 1000) : ¬ Int32.ofInt v < 0 := by
  have e := nw_lt (x := v) (y := 0) ⟨by omega, by omega⟩ ⟨by decide, by decide⟩
  intro z
  have := e.mp z
  omega
theorem w_pass {x : Int32} {a : Int} {w : of_S} (e : x.toInt = a) (h : 1 ≤ a ∧ a ≤ 48) : of_call d_X11_pass ([x].map (fun v => (.inl v.toInt : nw_V))) w (.inr (some (.inl (sp_ov 9 w.1.1 a 0)))) (of_ok w (sp_og 9 w.1.1 a 0 0 0)) 200 := by
  subst e
  exact of_pass.1 h
def w_sv (w : of_S) : of_S := ((w.1.1, w.1.2.1, w.1.2.2.1, 1, w.1.1), w.2)
def w_x3 (w : of_S) (g3 t : Int → Int) : of_S := ((of_ok (w_sv w) g3).1, w.2.1, (0, t), w.2.2.2)
section
variable {sc : Nat × (Nat → Int32)} {M : mw_Mem} {Qr : Option Value → mw_Mem → Prop} {Qx : Nat → mw_Mem → Prop}
theorem w_2 {w : of_S} {g1 g2 g3 : Int → Int} {a1 a2 a3 : Int} {b1 b2 : Nat} {v v3 : Int32} (O1 : Off b1 302 M w 40000) (O2 : Off b2 302 M w 40000) (hd : b1 + 303 ≤ b2) (hkn : ∀ x, 1000000 ≤ x → M.2.2.2.2.1 x = none) (hw : w.2.2.1.1 = 0) (hv : SV sc w.1.1 v) (hv3 : SV sc g3 v3) (hp1 : of_call d_X11_pass ([(5 : Int32)].map (fun v => (.inl v.toInt : nw_V))) w (.inr (some (.inl a1))) (of_ok w g1) 200) (hp2 : of_call d_X11_pass ([(24 : Int32)].map (fun v => (.inl v.toInt : nw_V))) (of_ok w g1) (.inr (some (.inl a2))) (of_ok (of_ok w g1) g2) 200) (hp3 : of_call d_X11_pass ([(1 : Int32)].map (fun v => (.inl v.toInt : nw_V))) (of_ok (of_ok w g1) g2) (.inr (some (.inl a3))) (of_ok (of_ok (of_ok w g1) g2) g3) 200) (n1 : ¬ Int32.ofInt a1 < 0) (n2 : ¬ Int32.ofInt a2 < 0) (n3 : ¬ Int32.ofInt a3 < 0) (hru : ∀ q : Int × (Int → Int), q.1 = (ts_10.length : Int) → (∀ s : Int, 0 ≤ s → s < (ts_10.length : Int) → q.2 s = tx ts_10 s) → of_call d_X11_run [] (of_T (w_sv w) q) (of_v (.inr 3)) (w_x3 w g3 q.2) 2200) 
    (K : ∀ (t : Int → Int) (M' : mw_Mem), Off b1 302 M' (w_x3 w g3 t) 50000 → Off b2 302 M' (of_ok (of_ok (of_ok w g1) g2) g3) 50000 → (∀ x, 1000000 ≤ x → M'.2.2.2.2.1 x = none) → mw_Wp sc mw_Good d_L_law 400 (73, [some (.ref 1000000), some (.ref b1), some (.ref b2), some (.int (Int32.ofInt (w.1.1 4))), some (.int v), none, none, none, none], [], M', 26740, 170440) Qr Qx) : mw_Wp sc mw_Good d_L_law 400 (10, [some (.ref 1000000), some (.ref b1), some (.ref b2), none, none, none, none, none, none], [], M, 30000, 190000) Qr Qx := by
  refine lr _ (11, [some (.ref 1000000), some (.ref b1), some (.ref b2), none, none, none, none, none, none], [.ref b1], M, 30000, 190000) l_L_law_10 rfl ?_
  refine lc_call [] o_save O1 (by omega) l_L_law_11 rfl rfl g_X11_save (by decide) (by decide) (by decide) rfl rfl (fun R9 h9 => Or.inl ⟨_, _, rfl, h9⟩) True.intro (fun M1_ A1_ F1_ => ?_)
  show mw_Wp sc mw_Good d_L_law 400 (14, [some (.ref 1000000), some (.ref b1), some (.ref b2), none, none, none, none, none, none], [.int (Int32.ofInt (w.1.1 4))], M1_, 29996, 189976) Qr Qx
  have A1_k0 := O2.oth F1_ (Or.inr ⟨hd, rfl⟩)
  have hn1 : ∀ x, 1000000 ≤ x → M1_.2.2.2.2.1 x = none := fun x a => F1_.2.2 x a (hkn x a)
  have Z1 : Off b1 302 M1_ (w_sv w) (40000 + 0) := A1_
  refine lr _ (15, [some (.ref 1000000), some (.ref b1), some (.ref b2), some (.int (Int32.ofInt (w.1.1 4))), none, none, none, none, none], [], M1_, 29996, 189976) l_L_law_14 rfl ?_
  refine lr _ (16, [some (.ref 1000000), some (.ref b1), some (.ref b2), some (.int (Int32.ofInt (w.1.1 4))), none, none, none, none, none], [.ref b1], M1_, 29996, 189976) l_L_law_15 rfl ?_
  refine mw_Wp.cal _ d_L_state 300 1000 6000 l_L_law_16 rfl rfl g_L_state (by decide) (by decide) (by decide) True.intro ?_
  refine hv (w_sv w) b1 302 _ _ _ _ rfl Z1 (by omega) hn1 (fun M2_ A2_ F2_ => ?_)
  show mw_Wp sc mw_Good d_L_law 400 (19, [some (.ref 1000000), some (.ref b1), some (.ref b2), some (.int (Int32.ofInt (w.1.1 4))), none, none, none, none, none], [.int v], M2_, 28996, 183976) Qr Qx
  have A2_k0 := A1_k0.oth F2_ (Or.inr ⟨hd, rfl⟩)
  have hn2 : ∀ x, 1000000 ≤ x → M2_.2.2.2.2.1 x = none := fun x a => F2_.2.2 x a (hn1 x a)
  refine lr _ (21, [some (.ref 1000000), some (.ref b1), some (.ref b2), some (.int (Int32.ofInt (w.1.1 4))), some (.int v), none, none, none, none], [], M2_, 28996, 183976) l_L_law_19 rfl ?_
  refine lr _ (22, [some (.ref 1000000), some (.ref b1), some (.ref b2), some (.int (Int32.ofInt (w.1.1 4))), some (.int v), none, none, none, none], [.ref b1], M2_, 28996, 183976) l_L_law_21 rfl ?_
  refine lr _ (24, [some (.ref 1000000), some (.ref b1), some (.ref b2), some (.int (Int32.ofInt (w.1.1 4))), some (.int v), none, none, none, none], [.ref 1000011, .ref b1], M2_, 28996, 183976) l_L_law_22 rfl ?_
  refine mw_Wp.cal _ d_L_put 23 240 1440 l_L_law_24 rfl rfl g_L_put (by decide) (by decide) (by decide) True.intro ?_
  refine t_put (n := ts_10.length) (f := fun k => ts_10.getD k 0) A2_ (by omega) (Int.le_of_eq hw.symm) (by show w.2.2.1.1 + _ ≤ 60; rw [hw]; decide) (ts_Str (M := M2_) ok_10).2.2 (fun M9 F9 => (ts_Str ok_10).1) (fun M3_ A3_ F3_ => ?_)
  show mw_Wp sc mw_Good d_L_law 400 (27, [some (.ref 1000000), some (.ref b1), some (.ref b2), some (.int (Int32.ofInt (w.1.1 4))), some (.int v), none, none, none, none], [], M3_, 28756, 182536) Qr Qx
  have A3_k0 := A2_k0.oth F3_ (Or.inr ⟨hd, rfl⟩)
  have hn3 : ∀ x, 1000000 ≤ x → M3_.2.2.2.2.1 x = none := fun x a => F3_.2.2 x a (hn2 x a)
  have te := tx_eq (l := ts_10) (q := (w_sv w).2.2.1) (f := fun k => ts_10.getD k 0) hw (fun k hk => rfl)
  have ru := hru _ te.1 te.2
  refine lr _ (28, [some (.ref 1000000), some (.ref b1), some (.ref b2), some (.int (Int32.ofInt (w.1.1 4))), some (.int v), none, none, none, none], [.ref b1], M3_, 28756, 182536) l_L_law_27 rfl ?_
  refine lc_call [] ru A3_ (by omega) l_L_law_28 rfl rfl g_X11_run (by decide) (by decide) (by decide) rfl rfl (fun R9 h9 => Or.inl ⟨_, _, rfl, h9⟩) (of_v_nr _) (fun M4_ A4_ F4_ => ?_)
  show mw_Wp sc mw_Good d_L_law 400 (31, [some (.ref 1000000), some (.ref b1), some (.ref b2), some (.int (Int32.ofInt (w.1.1 4))), some (.int v), none, none, none, none], [.int (Int32.ofInt 3)], M4_, 28752, 182512) Qr Qx
  have A4_k0 := A3_k0.oth F4_ (Or.inr ⟨hd, rfl⟩)
  have hn4 : ∀ x, 1000000 ≤ x → M4_.2.2.2.2.1 x = none := fun x a => F4_.2.2 x a (hn3 x a)
  have Z2 : Off b1 302 M4_ (w_x3 w g3 (tx_put (w_sv w).2.2.1 (fun k => ts_10.getD k 0) ts_10.length).2) (40000 + 0 + 2200) := A4_
  refine lr _ (32, [some (.ref 1000000), some (.ref b1), some (.ref b2), some (.int (Int32.ofInt (w.1.1 4))), some (.int v), none, none, none, none], [.int 3, .int (Int32.ofInt 3)], M4_, 28752, 182512) l_L_law_31 rfl ?_
  refine lbF _ (¬ (Int32.ofInt 3) = 3) (71, [some (.ref 1000000), some (.ref b1), some (.ref b2), some (.int (Int32.ofInt (w.1.1 4))), some (.int v), none, none, none, none], [], M4_, 28752, 182512) (35, [some (.ref 1000000), some (.ref b1), some (.ref b2), some (.int (Int32.ofInt (w.1.1 4))), some (.int v), none, none, none, none], [], M4_, 28752, 182512) l_L_law_32 rfl (by decide) ?_
  refine lr _ (36, [some (.ref 1000000), some (.ref b1), some (.ref b2), some (.int (Int32.ofInt (w.1.1 4))), some (.int v), none, none, none, none], [.ref b2], M4_, 28752, 182512) l_L_law_35 rfl ?_
  refine lr _ (37, [some (.ref 1000000), some (.ref b1), some (.ref b2), some (.int (Int32.ofInt (w.1.1 4))), some (.int v), none, none, none, none], [.int 5, .ref b2], M4_, 28752, 182512) l_L_law_36 rfl ?_
  refine lc_call [5] hp1 A4_k0 (by omega) l_L_law_37 rfl rfl g_X11_pass (by decide) (by decide) (by decide) rfl rfl (fun R9 h9 => Or.inl ⟨_, _, rfl, h9⟩) True.intro (fun M5_ A5_ F5_ => ?_)
  show mw_Wp sc mw_Good d_L_law 400 (40, [some (.ref 1000000), some (.ref b1), some (.ref b2), some (.int (Int32.ofInt (w.1.1 4))), some (.int v), none, none, none, none], [.int (Int32.ofInt a1)], M5_, 28748, 182488) Qr Qx
  have A5_k0 := Z2.oth F5_ (Or.inl hd)
  have hn5 : ∀ x, 1000000 ≤ x → M5_.2.2.2.2.1 x = none := fun x a => F5_.2.2 x a (hn4 x a)
  refine lbF _ ((Int32.ofInt a1) < 0) (71, [some (.ref 1000000), some (.ref b1), some (.ref b2), some (.int (Int32.ofInt (w.1.1 4))), some (.int v), none, none, none, none], [], M5_, 28748, 182488) (43, [some (.ref 1000000), some (.ref b1), some (.ref b2), some (.int (Int32.ofInt (w.1.1 4))), some (.int v), none, none, none, none], [], M5_, 28748, 182488) l_L_law_40 rfl n1 ?_
  refine lr _ (44, [some (.ref 1000000), some (.ref b1), some (.ref b2), some (.int (Int32.ofInt (w.1.1 4))), some (.int v), none, none, none, none], [.ref b2], M5_, 28748, 182488) l_L_law_43 rfl ?_
  refine lr _ (46, [some (.ref 1000000), some (.ref b1), some (.ref b2), some (.int (Int32.ofInt (w.1.1 4))), some (.int v), none, none, none, none], [.int 24, .ref b2], M5_, 28748, 182488) l_L_law_44 rfl ?_
  refine lc_call [24] hp2 A5_ (by omega) l_L_law_46 rfl rfl g_X11_pass (by decide) (by decide) (by decide) rfl rfl (fun R9 h9 => Or.inl ⟨_, _, rfl, h9⟩) True.intro (fun M6_ A6_ F6_ => ?_)
  show mw_Wp sc mw_Good d_L_law 400 (49, [some (.ref 1000000), some (.ref b1), some (.ref b2), some (.int (Int32.ofInt (w.1.1 4))), some (.int v), none, none, none, none], [.int (Int32.ofInt a2)], M6_, 28744, 182464) Qr Qx
  have A6_k0 := A5_k0.oth F6_ (Or.inl hd)
  have hn6 : ∀ x, 1000000 ≤ x → M6_.2.2.2.2.1 x = none := fun x a => F6_.2.2 x a (hn5 x a)
  refine lbF _ ((Int32.ofInt a2) < 0) (71, [some (.ref 1000000), some (.ref b1), some (.ref b2), some (.int (Int32.ofInt (w.1.1 4))), some (.int v), none, none, none, none], [], M6_, 28744, 182464) (52, [some (.ref 1000000), some (.ref b1), some (.ref b2), some (.int (Int32.ofInt (w.1.1 4))), some (.int v), none, none, none, none], [], M6_, 28744, 182464) l_L_law_49 rfl n2 ?_
  refine lr _ (53, [some (.ref 1000000), some (.ref b1), some (.ref b2), some (.int (Int32.ofInt (w.1.1 4))), some (.int v), none, none, none, none], [.ref b2], M6_, 28744, 182464) l_L_law_52 rfl ?_
  refine lr _ (54, [some (.ref 1000000), some (.ref b1), some (.ref b2), some (.int (Int32.ofInt (w.1.1 4))), some (.int v), none, none, none, none], [.int 1, .ref b2], M6_, 28744, 182464) l_L_law_53 rfl ?_
  refine lc_call [1] hp3 A6_ (by omega) l_L_law_54 rfl rfl g_X11_pass (by decide) (by decide) (by decide) rfl rfl (fun R9 h9 => Or.inl ⟨_, _, rfl, h9⟩) True.intro (fun M7_ A7_ F7_ => ?_)
  show mw_Wp sc mw_Good d_L_law 400 (57, [some (.ref 1000000), some (.ref b1), some (.ref b2), some (.int (Int32.ofInt (w.1.1 4))), some (.int v), none, none, none, none], [.int (Int32.ofInt a3)], M7_, 28740, 182440) Qr Qx
  have A7_k0 := A6_k0.oth F7_ (Or.inl hd)
  have hn7 : ∀ x, 1000000 ≤ x → M7_.2.2.2.2.1 x = none := fun x a => F7_.2.2 x a (hn6 x a)
  refine lbF _ ((Int32.ofInt a3) < 0) (71, [some (.ref 1000000), some (.ref b1), some (.ref b2), some (.int (Int32.ofInt (w.1.1 4))), some (.int v), none, none, none, none], [], M7_, 28740, 182440) (60, [some (.ref 1000000), some (.ref b1), some (.ref b2), some (.int (Int32.ofInt (w.1.1 4))), some (.int v), none, none, none, none], [], M7_, 28740, 182440) l_L_law_57 rfl n3 ?_
  refine lr _ (61, [some (.ref 1000000), some (.ref b1), some (.ref b2), some (.int (Int32.ofInt (w.1.1 4))), some (.int v), none, none, none, none], [.ref b1], M7_, 28740, 182440) l_L_law_60 rfl ?_
  refine mw_Wp.cal _ d_L_state 300 1000 6000 l_L_law_61 rfl rfl g_L_state (by decide) (by decide) (by decide) True.intro ?_
  refine hv3 (w_x3 w g3 _) b1 302 _ _ _ _ rfl A7_k0 (by omega) hn7 (fun M8_ A8_ F8_ => ?_)
  show mw_Wp sc mw_Good d_L_law 400 (64, [some (.ref 1000000), some (.ref b1), some (.ref b2), some (.int (Int32.ofInt (w.1.1 4))), some (.int v), none, none, none, none], [.int v3], M8_, 27740, 176440) Qr Qx
  have A8_k0 := A7_.oth F8_ (Or.inr ⟨hd, rfl⟩)
  have hn8 : ∀ x, 1000000 ≤ x → M8_.2.2.2.2.1 x = none := fun x a => F8_.2.2 x a (hn7 x a)
  refine lr _ (65, [some (.ref 1000000), some (.ref b1), some (.ref b2), some (.int (Int32.ofInt (w.1.1 4))), some (.int v), none, none, none, none], [.ref b2, .int v3], M8_, 27740, 176440) l_L_law_64 rfl ?_
  refine mw_Wp.cal _ d_L_state 300 1000 6000 l_L_law_65 rfl rfl g_L_state (by decide) (by decide) (by decide) True.intro ?_
  refine hv3 (of_ok (of_ok (of_ok w g1) g2) g3) b2 302 _ _ _ _ rfl A8_k0 (by omega) hn8 (fun M9_ A9_ F9_ => ?_)
  show mw_Wp sc mw_Good d_L_law 400 (68, [some (.ref 1000000), some (.ref b1), some (.ref b2), some (.int (Int32.ofInt (w.1.1 4))), some (.int v), none, none, none, none], [.int v3, .int v3], M9_, 26740, 170440) Qr Qx
  have A9_k0 := A8_.oth F9_ (Or.inl hd)
  have hn9 : ∀ x, 1000000 ≤ x → M9_.2.2.2.2.1 x = none := fun x a => F9_.2.2 x a (hn8 x a)
  refine lbT _ (v3 = v3) (73, [some (.ref 1000000), some (.ref b1), some (.ref b2), some (.int (Int32.ofInt (w.1.1 4))), some (.int v), none, none, none, none], [], M9_, 26740, 170440) (71, [some (.ref 1000000), some (.ref b1), some (.ref b2), some (.int (Int32.ofInt (w.1.1 4))), some (.int v), none, none, none, none], [], M9_, 26740, 170440) l_L_law_68 rfl rfl ?_
  exact K _ _ (A9_k0.up (by omega) (by omega)) (A9_.up (by omega) (by omega)) hn9
end
