/-! the law walked: two texts that fail -/
section
variable {sc : Nat × (Nat → Int32)} {M : mw_Mem} {Qr : Option Value → mw_Mem → Prop} {Qx : Nat → mw_Mem → Prop} {w : of_S} {q : Int × (Int → Int)}
def w_fl (w : of_S) (m : Int) (t : Int → Int) : of_S := (w.1, (w.2.1.1, w.2.1.2.1, m), (0, t), w.2.2.2)
theorem f_11 (h1 : q.1 = (ts_11.length : Int)) (h2 : ∀ s : Int, 0 ≤ s → s < (ts_11.length : Int) → q.2 s = tx ts_11 s) : of_call d_X11_run [] (of_T w q) (of_v (.inl 2)) (w_fl w 1 q.2) 2200 :=
  o_runF (w := of_T w q) (a := [(9, 1, 0, 0, 0)]) (b := []) (c := (9, 49, 0, 0, 0)) (e := -2) (r := 0) h1 h2 y_11 ⟨⟨by decide, by decide⟩, True.intro⟩ ⟨rfl, rfl, Or.inr (by decide)⟩
theorem f_12 (h3 : w.1.1 3 ≤ 3) (h1 : q.1 = (ts_12.length : Int)) (h2 : ∀ s : Int, 0 ≤ s → s < (ts_12.length : Int) → q.2 s = tx ts_12 s) : of_call d_X11_run [] (of_T w q) (of_v (.inl 2)) (w_fl w 0 q.2) 2200 :=
  o_runF (w := of_T w q) (a := []) (b := []) (c := (4, 9, 0, 0, 0)) (e := -1) (r := 0) h1 h2 y_12 True.intro (Or.inl ⟨rfl, rfl, fun h => by
    have k : (9 : Int) < w.1.1 3 := h.1.2
    omega⟩)
theorem w_4 {b1 b2 : Nat} {v x3 : Int32} (hw : w.2.2.1.1 = 0) (h3 : w.1.1 3 ≤ 3) (O1 : Off b1 302 M w 50000) (hkn : ∀ x, 1000000 ≤ x → M.2.2.2.2.1 x = none) (hv : SV sc w.1.1 v)
    (K : ∀ (w' : of_S) (M' : mw_Mem), w'.1 = w.1 → w'.2.2.1.1 = 0 → w'.2.1.2.2 = 0 → Off b1 302 M' w' 60000 → (∀ x, 1000000 ≤ x → M'.2.2.2.2.1 x = none) → mw_Wp sc mw_Good d_L_law 400 (188, [some (.ref 1000000), some (.ref b1), some (.ref b2), some (.int x3), some (.int v), none, none, none, none], [], M', 22228, 143368) Qr Qx) : mw_Wp sc mw_Good d_L_law 400 (121, [some (.ref 1000000), some (.ref b1), some (.ref b2), some (.int x3), some (.int v), none, none, none, none], [], M, 24724, 158344) Qr Qx := by
  refine lr _ (122, [some (.ref 1000000), some (.ref b1), some (.ref b2), some (.int x3), some (.int v), none, none, none, none], [.ref b1], M, 24724, 158344) l_L_law_121 rfl ?_
  refine lr _ (124, [some (.ref 1000000), some (.ref b1), some (.ref b2), some (.int x3), some (.int v), none, none, none, none], [.ref 1000012, .ref b1], M, 24724, 158344) l_L_law_122 rfl ?_
  refine mw_Wp.cal _ d_L_put 23 240 1440 l_L_law_124 rfl rfl g_L_put (by decide) (by decide) (by decide) True.intro ?_
  refine t_put (n := ts_11.length) (f := fun k => ts_11.getD k 0) O1 (by omega) (Int.le_of_eq hw.symm) (by show w.2.2.1.1 + _ ≤ 60; rw [hw]; decide) (ts_Str (M := M) ok_11).2.2 (fun M9 F9 => (ts_Str ok_11).1) (fun M1_ A1_ F1_ => ?_)
  show mw_Wp sc mw_Good d_L_law 400 (127, [some (.ref 1000000), some (.ref b1), some (.ref b2), some (.int x3), some (.int v), none, none, none, none], [], M1_, 24484, 156904) Qr Qx
  have hn1 : ∀ x, 1000000 ≤ x → M1_.2.2.2.2.1 x = none := fun x a => F1_.2.2 x a (hkn x a)
  have te11 := tx_eq (l := ts_11) (q := w.2.2.1) (f := fun k => ts_11.getD k 0) hw (fun k hk => rfl)
  refine lr _ (128, [some (.ref 1000000), some (.ref b1), some (.ref b2), some (.int x3), some (.int v), none, none, none, none], [.ref b1], M1_, 24484, 156904) l_L_law_127 rfl ?_
  refine lc_own [] _ (a_runs (f_11 (w := w) te11.1 te11.2) (fun e he => by cases he; exact Or.inr rfl)) A1_ (by omega) l_L_law_128 rfl rfl g_L_runs (by decide) (by decide) (by decide) True.intro rfl rfl (fun M2_ A2_ F2_ => ?_)
  show mw_Wp sc mw_Good d_L_law 400 (131, [some (.ref 1000000), some (.ref b1), some (.ref b2), some (.int x3), some (.int v), none, none, none, none], [.int (of_r (.inl 2))], M2_, 24480, 156880) Qr Qx
  have hn2 : ∀ x, 1000000 ≤ x → M2_.2.2.2.2.1 x = none := fun x a => F2_.2.2 x a (hn1 x a)
  refine lr _ (133, [some (.ref 1000000), some (.ref b1), some (.ref b2), some (.int x3), some (.int v), none, none, none, none], [.int (-2), .int (of_r (.inl 2))], M2_, 24480, 156880) l_L_law_131 rfl ?_
  refine lbF _ (¬ (of_r (.inl 2)) = (-2)) (153, [some (.ref 1000000), some (.ref b1), some (.ref b2), some (.int x3), some (.int v), none, none, none, none], [], M2_, 24480, 156880) (136, [some (.ref 1000000), some (.ref b1), some (.ref b2), some (.int x3), some (.int v), none, none, none, none], [], M2_, 24480, 156880) l_L_law_133 rfl (by decide) ?_
  refine lr _ (137, [some (.ref 1000000), some (.ref b1), some (.ref b2), some (.int x3), some (.int v), none, none, none, none], [.ref b1], M2_, 24480, 156880) l_L_law_136 rfl ?_
  refine lc_call [] (o_failedCommand (p := 1) rfl (by decide)) A2_ (by omega) l_L_law_137 rfl rfl g_X11_failedCommand (by decide) (by decide) (by decide) rfl rfl (fun R9 h9 => Or.inl ⟨_, _, rfl, h9⟩) (of_v_nr _) (fun M3_ A3_ F3_ => ?_)
  show mw_Wp sc mw_Good d_L_law 400 (140, [some (.ref 1000000), some (.ref b1), some (.ref b2), some (.int x3), some (.int v), none, none, none, none], [.int (Int32.ofInt 1)], M3_, 24476, 156856) Qr Qx
  have hn3 : ∀ x, 1000000 ≤ x → M3_.2.2.2.2.1 x = none := fun x a => F3_.2.2 x a (hn2 x a)
  refine lr _ (141, [some (.ref 1000000), some (.ref b1), some (.ref b2), some (.int x3), some (.int v), none, none, none, none], [.int 1, .int (Int32.ofInt 1)], M3_, 24476, 156856) l_L_law_140 rfl ?_
  refine lbF _ (¬ (Int32.ofInt 1) = 1) (153, [some (.ref 1000000), some (.ref b1), some (.ref b2), some (.int x3), some (.int v), none, none, none, none], [], M3_, 24476, 156856) (144, [some (.ref 1000000), some (.ref b1), some (.ref b2), some (.int x3), some (.int v), none, none, none, none], [], M3_, 24476, 156856) l_L_law_141 rfl (by decide) ?_
  refine lr _ (145, [some (.ref 1000000), some (.ref b1), some (.ref b2), some (.int x3), some (.int v), none, none, none, none], [.ref b1], M3_, 24476, 156856) l_L_law_144 rfl ?_
  refine mw_Wp.cal _ d_L_state 300 1000 6000 l_L_law_145 rfl rfl g_L_state (by decide) (by decide) (by decide) True.intro ?_
  refine hv (w_fl w 1 (tx_put w.2.2.1 (fun k => ts_11.getD k 0) ts_11.length).2) b1 302 _ _ _ _ rfl A3_ (by omega) hn3 (fun M4_ A4_ F4_ => ?_)
  show mw_Wp sc mw_Good d_L_law 400 (148, [some (.ref 1000000), some (.ref b1), some (.ref b2), some (.int x3), some (.int v), none, none, none, none], [.int v], M4_, 23476, 150856) Qr Qx
  have hn4 : ∀ x, 1000000 ≤ x → M4_.2.2.2.2.1 x = none := fun x a => F4_.2.2 x a (hn3 x a)
  refine lr _ (150, [some (.ref 1000000), some (.ref b1), some (.ref b2), some (.int x3), some (.int v), none, none, none, none], [.int v, .int v], M4_, 23476, 150856) l_L_law_148 rfl ?_
  refine lbT _ (v = v) (155, [some (.ref 1000000), some (.ref b1), some (.ref b2), some (.int x3), some (.int v), none, none, none, none], [], M4_, 23476, 150856) (153, [some (.ref 1000000), some (.ref b1), some (.ref b2), some (.int x3), some (.int v), none, none, none, none], [], M4_, 23476, 150856) l_L_law_150 rfl rfl ?_
  refine lr _ (156, [some (.ref 1000000), some (.ref b1), some (.ref b2), some (.int x3), some (.int v), none, none, none, none], [.ref b1], M4_, 23476, 150856) l_L_law_155 rfl ?_
  refine lr _ (158, [some (.ref 1000000), some (.ref b1), some (.ref b2), some (.int x3), some (.int v), none, none, none, none], [.ref 1000013, .ref b1], M4_, 23476, 150856) l_L_law_156 rfl ?_
  refine mw_Wp.cal _ d_L_put 23 240 1440 l_L_law_158 rfl rfl g_L_put (by decide) (by decide) (by decide) True.intro ?_
  refine t_put (n := ts_12.length) (f := fun k => ts_12.getD k 0) A4_ (by omega) (Int.le_of_eq rfl) (by show (0 : Int) + ((ts_12.length : Nat) : Int) ≤ 60; decide) (ts_Str (M := M4_) ok_12).2.2 (fun M9 F9 => (ts_Str ok_12).1) (fun M5_ A5_ F5_ => ?_)
  show mw_Wp sc mw_Good d_L_law 400 (161, [some (.ref 1000000), some (.ref b1), some (.ref b2), some (.int x3), some (.int v), none, none, none, none], [], M5_, 23236, 149416) Qr Qx
  have hn5 : ∀ x, 1000000 ≤ x → M5_.2.2.2.2.1 x = none := fun x a => F5_.2.2 x a (hn4 x a)
  have te12 := tx_eq (l := ts_12) (q := (w_fl w 1 (tx_put w.2.2.1 (fun k => ts_11.getD k 0) ts_11.length).2).2.2.1) (f := fun k => ts_12.getD k 0) rfl (fun k hk => rfl)
  refine lr _ (162, [some (.ref 1000000), some (.ref b1), some (.ref b2), some (.int x3), some (.int v), none, none, none, none], [.ref b1], M5_, 23236, 149416) l_L_law_161 rfl ?_
  refine lc_own [] _ (a_runs (f_12 (w := (w_fl w 1 (tx_put w.2.2.1 (fun k => ts_11.getD k 0) ts_11.length).2)) h3 te12.1 te12.2) (fun e he => by cases he; exact Or.inr rfl)) A5_ (by omega) l_L_law_162 rfl rfl g_L_runs (by decide) (by decide) (by decide) True.intro rfl rfl (fun M6_ A6_ F6_ => ?_)
  show mw_Wp sc mw_Good d_L_law 400 (165, [some (.ref 1000000), some (.ref b1), some (.ref b2), some (.int x3), some (.int v), none, none, none, none], [.int (of_r (.inl 2))], M6_, 23232, 149392) Qr Qx
  have hn6 : ∀ x, 1000000 ≤ x → M6_.2.2.2.2.1 x = none := fun x a => F6_.2.2 x a (hn5 x a)
  refine lr _ (167, [some (.ref 1000000), some (.ref b1), some (.ref b2), some (.int x3), some (.int v), none, none, none, none], [.int (-2), .int (of_r (.inl 2))], M6_, 23232, 149392) l_L_law_165 rfl ?_
  refine lbF _ (¬ (of_r (.inl 2)) = (-2)) (186, [some (.ref 1000000), some (.ref b1), some (.ref b2), some (.int x3), some (.int v), none, none, none, none], [], M6_, 23232, 149392) (170, [some (.ref 1000000), some (.ref b1), some (.ref b2), some (.int x3), some (.int v), none, none, none, none], [], M6_, 23232, 149392) l_L_law_167 rfl (by decide) ?_
  refine lr _ (171, [some (.ref 1000000), some (.ref b1), some (.ref b2), some (.int x3), some (.int v), none, none, none, none], [.ref b1], M6_, 23232, 149392) l_L_law_170 rfl ?_
  refine lc_call [] (o_failedCommand (p := 0) rfl (by decide)) A6_ (by omega) l_L_law_171 rfl rfl g_X11_failedCommand (by decide) (by decide) (by decide) rfl rfl (fun R9 h9 => Or.inl ⟨_, _, rfl, h9⟩) (of_v_nr _) (fun M7_ A7_ F7_ => ?_)
  show mw_Wp sc mw_Good d_L_law 400 (174, [some (.ref 1000000), some (.ref b1), some (.ref b2), some (.int x3), some (.int v), none, none, none, none], [.int (Int32.ofInt 0)], M7_, 23228, 149368) Qr Qx
  have hn7 : ∀ x, 1000000 ≤ x → M7_.2.2.2.2.1 x = none := fun x a => F7_.2.2 x a (hn6 x a)
  refine lbF _ (¬ (Int32.ofInt 0) = 0) (186, [some (.ref 1000000), some (.ref b1), some (.ref b2), some (.int x3), some (.int v), none, none, none, none], [], M7_, 23228, 149368) (177, [some (.ref 1000000), some (.ref b1), some (.ref b2), some (.int x3), some (.int v), none, none, none, none], [], M7_, 23228, 149368) l_L_law_174 rfl (by decide) ?_
  refine lr _ (178, [some (.ref 1000000), some (.ref b1), some (.ref b2), some (.int x3), some (.int v), none, none, none, none], [.ref b1], M7_, 23228, 149368) l_L_law_177 rfl ?_
  refine mw_Wp.cal _ d_L_state 300 1000 6000 l_L_law_178 rfl rfl g_L_state (by decide) (by decide) (by decide) True.intro ?_
  refine hv (w_fl (w_fl w 1 (tx_put w.2.2.1 (fun k => ts_11.getD k 0) ts_11.length).2) 0 (tx_put (w_fl w 1 (tx_put w.2.2.1 (fun k => ts_11.getD k 0) ts_11.length).2).2.2.1 (fun k => ts_12.getD k 0) ts_12.length).2) b1 302 _ _ _ _ rfl A7_ (by omega) hn7 (fun M8_ A8_ F8_ => ?_)
  show mw_Wp sc mw_Good d_L_law 400 (181, [some (.ref 1000000), some (.ref b1), some (.ref b2), some (.int x3), some (.int v), none, none, none, none], [.int v], M8_, 22228, 143368) Qr Qx
  have hn8 : ∀ x, 1000000 ≤ x → M8_.2.2.2.2.1 x = none := fun x a => F8_.2.2 x a (hn7 x a)
  refine lr _ (183, [some (.ref 1000000), some (.ref b1), some (.ref b2), some (.int x3), some (.int v), none, none, none, none], [.int v, .int v], M8_, 22228, 143368) l_L_law_181 rfl ?_
  refine lbT _ (v = v) (188, [some (.ref 1000000), some (.ref b1), some (.ref b2), some (.int x3), some (.int v), none, none, none, none], [], M8_, 22228, 143368) (186, [some (.ref 1000000), some (.ref b1), some (.ref b2), some (.int x3), some (.int v), none, none, none, none], [], M8_, 22228, 143368) l_L_law_183 rfl rfl ?_
  exact K (w_fl (w_fl w 1 (tx_put w.2.2.1 (fun k => ts_11.getD k 0) ts_11.length).2) 0 (tx_put (w_fl w 1 (tx_put w.2.2.1 (fun k => ts_11.getD k 0) ts_11.length).2).2.2.1 (fun k => ts_12.getD k 0) ts_12.length).2) _ rfl rfl rfl (A8_.up (by omega) (by omega)) hn8
end
