/-! act, channel, moon, runs: one office, one call -/
section
variable {sc : Nat × (Nat → Int32)} {w w' : of_S} {r : Nat ⊕ Int} {δ : Int}
theorem a_act0 (a b9 c9 : Int32) (hc : of_call d_X11_addCrater [.inl a.toInt] w (of_v r) w' δ) (hr : of_e r 5) : la sc d_L_act [0, a, b9, c9] w (of_a r) w' δ 22 4 24 := by
  intro b sb M B Qr Qx hO hB K
  show mw_Wp sc mw_Good d_L_act 22 (0, [some (.ref b), some (.int 0), some (.int a), some (.int b9), some (.int c9), none], [], M, 4, 24) Qr Qx
  refine lr _ (1, [some (.ref b), some (.int 0), some (.int a), some (.int b9), some (.int c9), none], [.int 0], M, 4, 24) l_L_act_0 rfl ?_
  refine lr _ (100, [some (.ref b), some (.int 0), some (.int a), some (.int b9), some (.int c9), none], [], M, 4, 24) l_L_act_1 rfl ?_
  refine lr _ (101, [some (.ref b), some (.int 0), some (.int a), some (.int b9), some (.int c9), none], [.ref b], M, 4, 24) l_L_act_100 rfl ?_
  refine lr _ (102, [some (.ref b), some (.int 0), some (.int a), some (.int b9), some (.int c9), none], [.int a, .ref b], M, 4, 24) l_L_act_101 rfl ?_
  refine lc_call [a] hc hO hB l_L_act_102 rfl rfl g_X11_addCrater (by decide) (by decide) (by decide) rfl rfl (fun R9 h9 => Or.inl ⟨_, _, rfl, h9⟩) (of_v_nr _) (fun M1 O1 F1 => ?_)
  cases r with
  | inl e =>
    have hf : ∀ e, e < 5 → mw_hfind d_L_act.2.2.2.2.2 102 e = some (4294967295 - e) := by decide +kernel
    show mw_hx d_L_act 102 e Qr Qx M1
    unfold mw_hx
    rw [hf e (hr e rfl)]
    exact K M1 O1 F1
  | inr v =>
    show mw_Wp sc mw_Good d_L_act 22 (105, [some (.ref b), some (.int 0), some (.int a), some (.int b9), some (.int c9), none], [.int (Int32.ofInt v)], M1, 0, 0) Qr Qx
    exact lt_ret _ (some (.int (Int32.ofInt v))) l_L_act_105 rfl (K M1 O1 F1)
theorem a_act1 (a b9 c9 : Int32) (hc : of_call d_X11_addFerry [.inl a.toInt, .inl b9.toInt, .inl c9.toInt] w (of_v r) w' δ) (hr : of_e r 5) : la sc d_L_act [1, a, b9, c9] w (of_a r) w' δ 22 4 24 := by
  intro b sb M B Qr Qx hO hB K
  show mw_Wp sc mw_Good d_L_act 22 (0, [some (.ref b), some (.int 1), some (.int a), some (.int b9), some (.int c9), none], [], M, 4, 24) Qr Qx
  refine lr _ (1, [some (.ref b), some (.int 1), some (.int a), some (.int b9), some (.int c9), none], [.int 1], M, 4, 24) l_L_act_0 rfl ?_
  refine lr _ (106, [some (.ref b), some (.int 1), some (.int a), some (.int b9), some (.int c9), none], [], M, 4, 24) l_L_act_1 rfl ?_
  refine lr _ (107, [some (.ref b), some (.int 1), some (.int a), some (.int b9), some (.int c9), none], [.ref b], M, 4, 24) l_L_act_106 rfl ?_
  refine lr _ (108, [some (.ref b), some (.int 1), some (.int a), some (.int b9), some (.int c9), none], [.int a, .ref b], M, 4, 24) l_L_act_107 rfl ?_
  refine lr _ (109, [some (.ref b), some (.int 1), some (.int a), some (.int b9), some (.int c9), none], [.int b9, .int a, .ref b], M, 4, 24) l_L_act_108 rfl ?_
  refine lr _ (111, [some (.ref b), some (.int 1), some (.int a), some (.int b9), some (.int c9), none], [.int c9, .int b9, .int a, .ref b], M, 4, 24) l_L_act_109 rfl ?_
  refine lc_call [a, b9, c9] hc hO hB l_L_act_111 rfl rfl g_X11_addFerry (by decide) (by decide) (by decide) rfl rfl (fun R9 h9 => Or.inl ⟨_, _, rfl, h9⟩) (of_v_nr _) (fun M1 O1 F1 => ?_)
  cases r with
  | inl e =>
    have hf : ∀ e, e < 5 → mw_hfind d_L_act.2.2.2.2.2 111 e = some (4294967295 - e) := by decide +kernel
    show mw_hx d_L_act 111 e Qr Qx M1
    unfold mw_hx
    rw [hf e (hr e rfl)]
    exact K M1 O1 F1
  | inr v =>
    show mw_Wp sc mw_Good d_L_act 22 (114, [some (.ref b), some (.int 1), some (.int a), some (.int b9), some (.int c9), none], [.int (Int32.ofInt v)], M1, 0, 0) Qr Qx
    exact lt_ret _ (some (.int (Int32.ofInt v))) l_L_act_114 rfl (K M1 O1 F1)
theorem a_act2 (a b9 c9 : Int32) (hc : of_call d_X11_sail [.inl a.toInt, .inl b9.toInt] w (of_v r) w' δ) (hr : of_e r 5) : la sc d_L_act [2, a, b9, c9] w (of_a r) w' δ 22 4 24 := by
  intro b sb M B Qr Qx hO hB K
  show mw_Wp sc mw_Good d_L_act 22 (0, [some (.ref b), some (.int 2), some (.int a), some (.int b9), some (.int c9), none], [], M, 4, 24) Qr Qx
  refine lr _ (1, [some (.ref b), some (.int 2), some (.int a), some (.int b9), some (.int c9), none], [.int 2], M, 4, 24) l_L_act_0 rfl ?_
  refine lr _ (115, [some (.ref b), some (.int 2), some (.int a), some (.int b9), some (.int c9), none], [], M, 4, 24) l_L_act_1 rfl ?_
  refine lr _ (116, [some (.ref b), some (.int 2), some (.int a), some (.int b9), some (.int c9), none], [.ref b], M, 4, 24) l_L_act_115 rfl ?_
  refine lr _ (117, [some (.ref b), some (.int 2), some (.int a), some (.int b9), some (.int c9), none], [.int a, .ref b], M, 4, 24) l_L_act_116 rfl ?_
  refine lr _ (118, [some (.ref b), some (.int 2), some (.int a), some (.int b9), some (.int c9), none], [.int b9, .int a, .ref b], M, 4, 24) l_L_act_117 rfl ?_
  refine lc_call [a, b9] hc hO hB l_L_act_118 rfl rfl g_X11_sail (by decide) (by decide) (by decide) rfl rfl (fun R9 h9 => Or.inl ⟨_, _, rfl, h9⟩) (of_v_nr _) (fun M1 O1 F1 => ?_)
  cases r with
  | inl e =>
    have hf : ∀ e, e < 5 → mw_hfind d_L_act.2.2.2.2.2 118 e = some (4294967295 - e) := by decide +kernel
    show mw_hx d_L_act 118 e Qr Qx M1
    unfold mw_hx
    rw [hf e (hr e rfl)]
    exact K M1 O1 F1
  | inr v =>
    show mw_Wp sc mw_Good d_L_act 22 (121, [some (.ref b), some (.int 2), some (.int a), some (.int b9), some (.int c9), none], [.int (Int32.ofInt v)], M1, 0, 0) Qr Qx
    exact lt_ret _ (some (.int (Int32.ofInt v))) l_L_act_121 rfl (K M1 O1 F1)
theorem a_act3 (a b9 c9 : Int32) (hc : of_call d_X11_board [.inl a.toInt, .inl b9.toInt] w (of_v r) w' δ) (hr : of_e r 5) : la sc d_L_act [3, a, b9, c9] w (of_a r) w' δ 22 4 24 := by
  intro b sb M B Qr Qx hO hB K
  show mw_Wp sc mw_Good d_L_act 22 (0, [some (.ref b), some (.int 3), some (.int a), some (.int b9), some (.int c9), none], [], M, 4, 24) Qr Qx
  refine lr _ (1, [some (.ref b), some (.int 3), some (.int a), some (.int b9), some (.int c9), none], [.int 3], M, 4, 24) l_L_act_0 rfl ?_
  refine lr _ (122, [some (.ref b), some (.int 3), some (.int a), some (.int b9), some (.int c9), none], [], M, 4, 24) l_L_act_1 rfl ?_
  refine lr _ (123, [some (.ref b), some (.int 3), some (.int a), some (.int b9), some (.int c9), none], [.ref b], M, 4, 24) l_L_act_122 rfl ?_
  refine lr _ (124, [some (.ref b), some (.int 3), some (.int a), some (.int b9), some (.int c9), none], [.int a, .ref b], M, 4, 24) l_L_act_123 rfl ?_
  refine lr _ (125, [some (.ref b), some (.int 3), some (.int a), some (.int b9), some (.int c9), none], [.int b9, .int a, .ref b], M, 4, 24) l_L_act_124 rfl ?_
  refine lc_call [a, b9] hc hO hB l_L_act_125 rfl rfl g_X11_board (by decide) (by decide) (by decide) rfl rfl (fun R9 h9 => Or.inl ⟨_, _, rfl, h9⟩) (of_v_nr _) (fun M1 O1 F1 => ?_)
  cases r with
  | inl e =>
    have hf : ∀ e, e < 5 → mw_hfind d_L_act.2.2.2.2.2 125 e = some (4294967295 - e) := by decide +kernel
    show mw_hx d_L_act 125 e Qr Qx M1
    unfold mw_hx
    rw [hf e (hr e rfl)]
    exact K M1 O1 F1
  | inr v =>
    show mw_Wp sc mw_Good d_L_act 22 (128, [some (.ref b), some (.int 3), some (.int a), some (.int b9), some (.int c9), none], [.int (Int32.ofInt v)], M1, 0, 0) Qr Qx
    exact lt_ret _ (some (.int (Int32.ofInt v))) l_L_act_128 rfl (K M1 O1 F1)
theorem a_act4 (a b9 c9 : Int32) (hc : of_call d_X11_land [.inl a.toInt] w (of_v r) w' δ) (hr : of_e r 5) : la sc d_L_act [4, a, b9, c9] w (of_a r) w' δ 22 4 24 := by
  intro b sb M B Qr Qx hO hB K
  show mw_Wp sc mw_Good d_L_act 22 (0, [some (.ref b), some (.int 4), some (.int a), some (.int b9), some (.int c9), none], [], M, 4, 24) Qr Qx
  refine lr _ (1, [some (.ref b), some (.int 4), some (.int a), some (.int b9), some (.int c9), none], [.int 4], M, 4, 24) l_L_act_0 rfl ?_
  refine lr _ (129, [some (.ref b), some (.int 4), some (.int a), some (.int b9), some (.int c9), none], [], M, 4, 24) l_L_act_1 rfl ?_
  refine lr _ (130, [some (.ref b), some (.int 4), some (.int a), some (.int b9), some (.int c9), none], [.ref b], M, 4, 24) l_L_act_129 rfl ?_
  refine lr _ (131, [some (.ref b), some (.int 4), some (.int a), some (.int b9), some (.int c9), none], [.int a, .ref b], M, 4, 24) l_L_act_130 rfl ?_
  refine lc_call [a] hc hO hB l_L_act_131 rfl rfl g_X11_land (by decide) (by decide) (by decide) rfl rfl (fun R9 h9 => Or.inl ⟨_, _, rfl, h9⟩) (of_v_nr _) (fun M1 O1 F1 => ?_)
  cases r with
  | inl e =>
    have hf : ∀ e, e < 5 → mw_hfind d_L_act.2.2.2.2.2 131 e = some (4294967295 - e) := by decide +kernel
    show mw_hx d_L_act 131 e Qr Qx M1
    unfold mw_hx
    rw [hf e (hr e rfl)]
    exact K M1 O1 F1
  | inr v =>
    show mw_Wp sc mw_Good d_L_act 22 (134, [some (.ref b), some (.int 4), some (.int a), some (.int b9), some (.int c9), none], [.int (Int32.ofInt v)], M1, 0, 0) Qr Qx
    exact lt_ret _ (some (.int (Int32.ofInt v))) l_L_act_134 rfl (K M1 O1 F1)
theorem a_act5 (a b9 c9 : Int32) (hc : of_call d_X11_loadBest [.inl a.toInt] w (of_v r) w' δ) (hr : of_e r 5) : la sc d_L_act [5, a, b9, c9] w (of_a r) w' δ 22 4 24 := by
  intro b sb M B Qr Qx hO hB K
  show mw_Wp sc mw_Good d_L_act 22 (0, [some (.ref b), some (.int 5), some (.int a), some (.int b9), some (.int c9), none], [], M, 4, 24) Qr Qx
  refine lr _ (1, [some (.ref b), some (.int 5), some (.int a), some (.int b9), some (.int c9), none], [.int 5], M, 4, 24) l_L_act_0 rfl ?_
  refine lr _ (135, [some (.ref b), some (.int 5), some (.int a), some (.int b9), some (.int c9), none], [], M, 4, 24) l_L_act_1 rfl ?_
  refine lr _ (136, [some (.ref b), some (.int 5), some (.int a), some (.int b9), some (.int c9), none], [.ref b], M, 4, 24) l_L_act_135 rfl ?_
  refine lr _ (137, [some (.ref b), some (.int 5), some (.int a), some (.int b9), some (.int c9), none], [.int a, .ref b], M, 4, 24) l_L_act_136 rfl ?_
  refine lc_call [a] hc hO hB l_L_act_137 rfl rfl g_X11_loadBest (by decide) (by decide) (by decide) rfl rfl (fun R9 h9 => Or.inl ⟨_, _, rfl, h9⟩) (of_v_nr _) (fun M1 O1 F1 => ?_)
  cases r with
  | inl e =>
    have hf : ∀ e, e < 5 → mw_hfind d_L_act.2.2.2.2.2 137 e = some (4294967295 - e) := by decide +kernel
    show mw_hx d_L_act 137 e Qr Qx M1
    unfold mw_hx
    rw [hf e (hr e rfl)]
    exact K M1 O1 F1
  | inr v =>
    show mw_Wp sc mw_Good d_L_act 22 (140, [some (.ref b), some (.int 5), some (.int a), some (.int b9), some (.int c9), none], [.int (Int32.ofInt v)], M1, 0, 0) Qr Qx
    exact lt_ret _ (some (.int (Int32.ofInt v))) l_L_act_140 rfl (K M1 O1 F1)
theorem a_act6 (a b9 c9 : Int32) (hc : of_call d_X11_rescue [.inl a.toInt] w (of_v r) w' δ) (hr : of_e r 5) : la sc d_L_act [6, a, b9, c9] w (of_a r) w' δ 22 4 24 := by
  intro b sb M B Qr Qx hO hB K
  show mw_Wp sc mw_Good d_L_act 22 (0, [some (.ref b), some (.int 6), some (.int a), some (.int b9), some (.int c9), none], [], M, 4, 24) Qr Qx
  refine lr _ (1, [some (.ref b), some (.int 6), some (.int a), some (.int b9), some (.int c9), none], [.int 6], M, 4, 24) l_L_act_0 rfl ?_
  refine lr _ (141, [some (.ref b), some (.int 6), some (.int a), some (.int b9), some (.int c9), none], [], M, 4, 24) l_L_act_1 rfl ?_
  refine lr _ (142, [some (.ref b), some (.int 6), some (.int a), some (.int b9), some (.int c9), none], [.ref b], M, 4, 24) l_L_act_141 rfl ?_
  refine lr _ (143, [some (.ref b), some (.int 6), some (.int a), some (.int b9), some (.int c9), none], [.int a, .ref b], M, 4, 24) l_L_act_142 rfl ?_
  refine lc_call [a] hc hO hB l_L_act_143 rfl rfl g_X11_rescue (by decide) (by decide) (by decide) rfl rfl (fun R9 h9 => Or.inl ⟨_, _, rfl, h9⟩) (of_v_nr _) (fun M1 O1 F1 => ?_)
  cases r with
  | inl e =>
    have hf : ∀ e, e < 5 → mw_hfind d_L_act.2.2.2.2.2 143 e = some (4294967295 - e) := by decide +kernel
    show mw_hx d_L_act 143 e Qr Qx M1
    unfold mw_hx
    rw [hf e (hr e rfl)]
    exact K M1 O1 F1
  | inr v =>
    show mw_Wp sc mw_Good d_L_act 22 (146, [some (.ref b), some (.int 6), some (.int a), some (.int b9), some (.int c9), none], [.int (Int32.ofInt v)], M1, 0, 0) Qr Qx
    exact lt_ret _ (some (.int (Int32.ofInt v))) l_L_act_146 rfl (K M1 O1 F1)
theorem a_act7 (a b9 c9 : Int32) (hc : of_call d_X11_pass [.inl a.toInt] w (of_v r) w' δ) (hr : of_e r 5) : la sc d_L_act [7, a, b9, c9] w (of_a r) w' δ 22 4 24 := by
  intro b sb M B Qr Qx hO hB K
  show mw_Wp sc mw_Good d_L_act 22 (0, [some (.ref b), some (.int 7), some (.int a), some (.int b9), some (.int c9), none], [], M, 4, 24) Qr Qx
  refine lr _ (1, [some (.ref b), some (.int 7), some (.int a), some (.int b9), some (.int c9), none], [.int 7], M, 4, 24) l_L_act_0 rfl ?_
  refine lr _ (147, [some (.ref b), some (.int 7), some (.int a), some (.int b9), some (.int c9), none], [], M, 4, 24) l_L_act_1 rfl ?_
  refine lr _ (148, [some (.ref b), some (.int 7), some (.int a), some (.int b9), some (.int c9), none], [.ref b], M, 4, 24) l_L_act_147 rfl ?_
  refine lr _ (149, [some (.ref b), some (.int 7), some (.int a), some (.int b9), some (.int c9), none], [.int a, .ref b], M, 4, 24) l_L_act_148 rfl ?_
  refine lc_call [a] hc hO hB l_L_act_149 rfl rfl g_X11_pass (by decide) (by decide) (by decide) rfl rfl (fun R9 h9 => Or.inl ⟨_, _, rfl, h9⟩) (of_v_nr _) (fun M1 O1 F1 => ?_)
  cases r with
  | inl e =>
    have hf : ∀ e, e < 5 → mw_hfind d_L_act.2.2.2.2.2 149 e = some (4294967295 - e) := by decide +kernel
    show mw_hx d_L_act 149 e Qr Qx M1
    unfold mw_hx
    rw [hf e (hr e rfl)]
    exact K M1 O1 F1
  | inr v =>
    show mw_Wp sc mw_Good d_L_act 22 (152, [some (.ref b), some (.int 7), some (.int a), some (.int b9), some (.int c9), none], [.int (Int32.ofInt v)], M1, 0, 0) Qr Qx
    exact lt_ret _ (some (.int (Int32.ofInt v))) l_L_act_152 rfl (K M1 O1 F1)
theorem a_act8 (a b9 c9 : Int32) (hc : of_call d_X11_removeChannel [.inl a.toInt] w (of_v r) w' δ) (hr : of_e r 5) : la sc d_L_act [8, a, b9, c9] w (of_a r) w' δ 22 4 24 := by
  intro b sb M B Qr Qx hO hB K
  show mw_Wp sc mw_Good d_L_act 22 (0, [some (.ref b), some (.int 8), some (.int a), some (.int b9), some (.int c9), none], [], M, 4, 24) Qr Qx
  refine lr _ (1, [some (.ref b), some (.int 8), some (.int a), some (.int b9), some (.int c9), none], [.int 8], M, 4, 24) l_L_act_0 rfl ?_
  refine lr _ (153, [some (.ref b), some (.int 8), some (.int a), some (.int b9), some (.int c9), none], [], M, 4, 24) l_L_act_1 rfl ?_
  refine lr _ (154, [some (.ref b), some (.int 8), some (.int a), some (.int b9), some (.int c9), none], [.ref b], M, 4, 24) l_L_act_153 rfl ?_
  refine lr _ (155, [some (.ref b), some (.int 8), some (.int a), some (.int b9), some (.int c9), none], [.int a, .ref b], M, 4, 24) l_L_act_154 rfl ?_
  refine lc_call [a] hc hO hB l_L_act_155 rfl rfl g_X11_removeChannel (by decide) (by decide) (by decide) rfl rfl (fun R9 h9 => Or.inl ⟨_, _, rfl, h9⟩) (of_v_nr _) (fun M1 O1 F1 => ?_)
  cases r with
  | inl e =>
    have hf : ∀ e, e < 5 → mw_hfind d_L_act.2.2.2.2.2 155 e = some (4294967295 - e) := by decide +kernel
    show mw_hx d_L_act 155 e Qr Qx M1
    unfold mw_hx
    rw [hf e (hr e rfl)]
    exact K M1 O1 F1
  | inr v =>
    show mw_Wp sc mw_Good d_L_act 22 (158, [some (.ref b), some (.int 8), some (.int a), some (.int b9), some (.int c9), none], [.int (Int32.ofInt v)], M1, 0, 0) Qr Qx
    exact lt_ret _ (some (.int (Int32.ofInt v))) l_L_act_158 rfl (K M1 O1 F1)
theorem a_act9 (a b9 c9 : Int32) (hc : of_call d_X11_wayHours [.inl a.toInt, .inl b9.toInt] w (of_v r) w' δ) (hr : of_e r 5) : la sc d_L_act [9, a, b9, c9] w (of_a r) w' δ 22 4 24 := by
  intro b sb M B Qr Qx hO hB K
  show mw_Wp sc mw_Good d_L_act 22 (0, [some (.ref b), some (.int 9), some (.int a), some (.int b9), some (.int c9), none], [], M, 4, 24) Qr Qx
  refine lr _ (1, [some (.ref b), some (.int 9), some (.int a), some (.int b9), some (.int c9), none], [.int 9], M, 4, 24) l_L_act_0 rfl ?_
  refine lr _ (159, [some (.ref b), some (.int 9), some (.int a), some (.int b9), some (.int c9), none], [], M, 4, 24) l_L_act_1 rfl ?_
  refine lr _ (160, [some (.ref b), some (.int 9), some (.int a), some (.int b9), some (.int c9), none], [.ref b], M, 4, 24) l_L_act_159 rfl ?_
  refine lr _ (161, [some (.ref b), some (.int 9), some (.int a), some (.int b9), some (.int c9), none], [.int a, .ref b], M, 4, 24) l_L_act_160 rfl ?_
  refine lr _ (162, [some (.ref b), some (.int 9), some (.int a), some (.int b9), some (.int c9), none], [.int b9, .int a, .ref b], M, 4, 24) l_L_act_161 rfl ?_
  refine lc_call [a, b9] hc hO hB l_L_act_162 rfl rfl g_X11_wayHours (by decide) (by decide) (by decide) rfl rfl (fun R9 h9 => Or.inl ⟨_, _, rfl, h9⟩) (of_v_nr _) (fun M1 O1 F1 => ?_)
  cases r with
  | inl e =>
    have hf : ∀ e, e < 5 → mw_hfind d_L_act.2.2.2.2.2 162 e = some (4294967295 - e) := by decide +kernel
    show mw_hx d_L_act 162 e Qr Qx M1
    unfold mw_hx
    rw [hf e (hr e rfl)]
    exact K M1 O1 F1
  | inr v =>
    show mw_Wp sc mw_Good d_L_act 22 (165, [some (.ref b), some (.int 9), some (.int a), some (.int b9), some (.int c9), none], [.int (Int32.ofInt v)], M1, 0, 0) Qr Qx
    exact lt_ret _ (some (.int (Int32.ofInt v))) l_L_act_165 rfl (K M1 O1 F1)
theorem a_act10 (a b9 c9 : Int32) (hc : of_call d_X11_wayHoursByTable [.inl a.toInt, .inl b9.toInt] w (of_v r) w' δ) (hr : of_e r 5) : la sc d_L_act [10, a, b9, c9] w (of_a r) w' δ 22 4 24 := by
  intro b sb M B Qr Qx hO hB K
  show mw_Wp sc mw_Good d_L_act 22 (0, [some (.ref b), some (.int 10), some (.int a), some (.int b9), some (.int c9), none], [], M, 4, 24) Qr Qx
  refine lr _ (1, [some (.ref b), some (.int 10), some (.int a), some (.int b9), some (.int c9), none], [.int 10], M, 4, 24) l_L_act_0 rfl ?_
  refine lr _ (166, [some (.ref b), some (.int 10), some (.int a), some (.int b9), some (.int c9), none], [], M, 4, 24) l_L_act_1 rfl ?_
  refine lr _ (167, [some (.ref b), some (.int 10), some (.int a), some (.int b9), some (.int c9), none], [.ref b], M, 4, 24) l_L_act_166 rfl ?_
  refine lr _ (168, [some (.ref b), some (.int 10), some (.int a), some (.int b9), some (.int c9), none], [.int a, .ref b], M, 4, 24) l_L_act_167 rfl ?_
  refine lr _ (169, [some (.ref b), some (.int 10), some (.int a), some (.int b9), some (.int c9), none], [.int b9, .int a, .ref b], M, 4, 24) l_L_act_168 rfl ?_
  refine lc_call [a, b9] hc hO hB l_L_act_169 rfl rfl g_X11_wayHoursByTable (by decide) (by decide) (by decide) rfl rfl (fun R9 h9 => Or.inl ⟨_, _, rfl, h9⟩) (of_v_nr _) (fun M1 O1 F1 => ?_)
  cases r with
  | inl e =>
    have hf : ∀ e, e < 5 → mw_hfind d_L_act.2.2.2.2.2 169 e = some (4294967295 - e) := by decide +kernel
    show mw_hx d_L_act 169 e Qr Qx M1
    unfold mw_hx
    rw [hf e (hr e rfl)]
    exact K M1 O1 F1
  | inr v =>
    show mw_Wp sc mw_Good d_L_act 22 (172, [some (.ref b), some (.int 10), some (.int a), some (.int b9), some (.int c9), none], [.int (Int32.ofInt v)], M1, 0, 0) Qr Qx
    exact lt_ret _ (some (.int (Int32.ofInt v))) l_L_act_172 rfl (K M1 O1 F1)
theorem a_act11 (a b9 c9 : Int32) (hc : of_call d_X11_earliestArrival [.inl a.toInt, .inl b9.toInt] w (of_v r) w' δ) (hr : of_e r 5) : la sc d_L_act [11, a, b9, c9] w (of_a r) w' δ 22 4 24 := by
  intro b sb M B Qr Qx hO hB K
  show mw_Wp sc mw_Good d_L_act 22 (0, [some (.ref b), some (.int 11), some (.int a), some (.int b9), some (.int c9), none], [], M, 4, 24) Qr Qx
  refine lr _ (1, [some (.ref b), some (.int 11), some (.int a), some (.int b9), some (.int c9), none], [.int 11], M, 4, 24) l_L_act_0 rfl ?_
  refine lr _ (173, [some (.ref b), some (.int 11), some (.int a), some (.int b9), some (.int c9), none], [], M, 4, 24) l_L_act_1 rfl ?_
  refine lr _ (174, [some (.ref b), some (.int 11), some (.int a), some (.int b9), some (.int c9), none], [.ref b], M, 4, 24) l_L_act_173 rfl ?_
  refine lr _ (175, [some (.ref b), some (.int 11), some (.int a), some (.int b9), some (.int c9), none], [.int a, .ref b], M, 4, 24) l_L_act_174 rfl ?_
  refine lr _ (176, [some (.ref b), some (.int 11), some (.int a), some (.int b9), some (.int c9), none], [.int b9, .int a, .ref b], M, 4, 24) l_L_act_175 rfl ?_
  refine lc_call [a, b9] hc hO hB l_L_act_176 rfl rfl g_X11_earliestArrival (by decide) (by decide) (by decide) rfl rfl (fun R9 h9 => Or.inl ⟨_, _, rfl, h9⟩) (of_v_nr _) (fun M1 O1 F1 => ?_)
  cases r with
  | inl e =>
    have hf : ∀ e, e < 5 → mw_hfind d_L_act.2.2.2.2.2 176 e = some (4294967295 - e) := by decide +kernel
    show mw_hx d_L_act 176 e Qr Qx M1
    unfold mw_hx
    rw [hf e (hr e rfl)]
    exact K M1 O1 F1
  | inr v =>
    show mw_Wp sc mw_Good d_L_act 22 (179, [some (.ref b), some (.int 11), some (.int a), some (.int b9), some (.int c9), none], [.int (Int32.ofInt v)], M1, 0, 0) Qr Qx
    exact lt_ret _ (some (.int (Int32.ofInt v))) l_L_act_179 rfl (K M1 O1 F1)
theorem a_act12 (a b9 c9 : Int32) (hc : of_call d_X11_earliestArrivalByHours [.inl a.toInt, .inl b9.toInt] w (of_v r) w' δ) (hr : of_e r 5) : la sc d_L_act [12, a, b9, c9] w (of_a r) w' δ 22 4 24 := by
  intro b sb M B Qr Qx hO hB K
  show mw_Wp sc mw_Good d_L_act 22 (0, [some (.ref b), some (.int 12), some (.int a), some (.int b9), some (.int c9), none], [], M, 4, 24) Qr Qx
  refine lr _ (1, [some (.ref b), some (.int 12), some (.int a), some (.int b9), some (.int c9), none], [.int 12], M, 4, 24) l_L_act_0 rfl ?_
  refine lr _ (180, [some (.ref b), some (.int 12), some (.int a), some (.int b9), some (.int c9), none], [], M, 4, 24) l_L_act_1 rfl ?_
  refine lr _ (181, [some (.ref b), some (.int 12), some (.int a), some (.int b9), some (.int c9), none], [.ref b], M, 4, 24) l_L_act_180 rfl ?_
  refine lr _ (182, [some (.ref b), some (.int 12), some (.int a), some (.int b9), some (.int c9), none], [.int a, .ref b], M, 4, 24) l_L_act_181 rfl ?_
  refine lr _ (183, [some (.ref b), some (.int 12), some (.int a), some (.int b9), some (.int c9), none], [.int b9, .int a, .ref b], M, 4, 24) l_L_act_182 rfl ?_
  refine lc_call [a, b9] hc hO hB l_L_act_183 rfl rfl g_X11_earliestArrivalByHours (by decide) (by decide) (by decide) rfl rfl (fun R9 h9 => Or.inl ⟨_, _, rfl, h9⟩) (of_v_nr _) (fun M1 O1 F1 => ?_)
  cases r with
  | inl e =>
    have hf : ∀ e, e < 5 → mw_hfind d_L_act.2.2.2.2.2 183 e = some (4294967295 - e) := by decide +kernel
    show mw_hx d_L_act 183 e Qr Qx M1
    unfold mw_hx
    rw [hf e (hr e rfl)]
    exact K M1 O1 F1
  | inr v =>
    show mw_Wp sc mw_Good d_L_act 22 (186, [some (.ref b), some (.int 12), some (.int a), some (.int b9), some (.int c9), none], [.int (Int32.ofInt v)], M1, 0, 0) Qr Qx
    exact lt_ret _ (some (.int (Int32.ofInt v))) l_L_act_186 rfl (K M1 O1 F1)
theorem a_act13 (a b9 c9 : Int32) (hc : of_call d_X11_cheapestNet [] w (of_v r) w' δ) (hr : of_e r 5) : la sc d_L_act [13, a, b9, c9] w (of_a r) w' δ 22 4 24 := by
  intro b sb M B Qr Qx hO hB K
  show mw_Wp sc mw_Good d_L_act 22 (0, [some (.ref b), some (.int 13), some (.int a), some (.int b9), some (.int c9), none], [], M, 4, 24) Qr Qx
  refine lr _ (1, [some (.ref b), some (.int 13), some (.int a), some (.int b9), some (.int c9), none], [.int 13], M, 4, 24) l_L_act_0 rfl ?_
  refine lr _ (187, [some (.ref b), some (.int 13), some (.int a), some (.int b9), some (.int c9), none], [], M, 4, 24) l_L_act_1 rfl ?_
  refine lr _ (188, [some (.ref b), some (.int 13), some (.int a), some (.int b9), some (.int c9), none], [.ref b], M, 4, 24) l_L_act_187 rfl ?_
  refine lc_call [] hc hO hB l_L_act_188 rfl rfl g_X11_cheapestNet (by decide) (by decide) (by decide) rfl rfl (fun R9 h9 => Or.inl ⟨_, _, rfl, h9⟩) (of_v_nr _) (fun M1 O1 F1 => ?_)
  cases r with
  | inl e =>
    have hf : ∀ e, e < 5 → mw_hfind d_L_act.2.2.2.2.2 188 e = some (4294967295 - e) := by decide +kernel
    show mw_hx d_L_act 188 e Qr Qx M1
    unfold mw_hx
    rw [hf e (hr e rfl)]
    exact K M1 O1 F1
  | inr v =>
    show mw_Wp sc mw_Good d_L_act 22 (191, [some (.ref b), some (.int 13), some (.int a), some (.int b9), some (.int c9), none], [.int (Int32.ofInt v)], M1, 0, 0) Qr Qx
    exact lt_ret _ (some (.int (Int32.ofInt v))) l_L_act_191 rfl (K M1 O1 F1)
theorem a_act14 (a b9 c9 : Int32) (hc : of_call d_X11_cheapestNetByGrowing [] w (of_v r) w' δ) (hr : of_e r 5) : la sc d_L_act [14, a, b9, c9] w (of_a r) w' δ 22 4 24 := by
  intro b sb M B Qr Qx hO hB K
  show mw_Wp sc mw_Good d_L_act 22 (0, [some (.ref b), some (.int 14), some (.int a), some (.int b9), some (.int c9), none], [], M, 4, 24) Qr Qx
  refine lr _ (1, [some (.ref b), some (.int 14), some (.int a), some (.int b9), some (.int c9), none], [.int 14], M, 4, 24) l_L_act_0 rfl ?_
  refine lr _ (192, [some (.ref b), some (.int 14), some (.int a), some (.int b9), some (.int c9), none], [], M, 4, 24) l_L_act_1 rfl ?_
  refine lr _ (193, [some (.ref b), some (.int 14), some (.int a), some (.int b9), some (.int c9), none], [.ref b], M, 4, 24) l_L_act_192 rfl ?_
  refine lc_call [] hc hO hB l_L_act_193 rfl rfl g_X11_cheapestNetByGrowing (by decide) (by decide) (by decide) rfl rfl (fun R9 h9 => Or.inl ⟨_, _, rfl, h9⟩) (of_v_nr _) (fun M1 O1 F1 => ?_)
  cases r with
  | inl e =>
    have hf : ∀ e, e < 5 → mw_hfind d_L_act.2.2.2.2.2 193 e = some (4294967295 - e) := by decide +kernel
    show mw_hx d_L_act 193 e Qr Qx M1
    unfold mw_hx
    rw [hf e (hr e rfl)]
    exact K M1 O1 F1
  | inr v =>
    show mw_Wp sc mw_Good d_L_act 22 (196, [some (.ref b), some (.int 14), some (.int a), some (.int b9), some (.int c9), none], [.int (Int32.ofInt v)], M1, 0, 0) Qr Qx
    exact lt_ret _ (some (.int (Int32.ofInt v))) l_L_act_196 rfl (K M1 O1 F1)
theorem a_act15 (a b9 c9 : Int32) (hc : of_call d_X11_bestLoad [.inl a.toInt] w (of_v r) w' δ) (hr : of_e r 5) : la sc d_L_act [15, a, b9, c9] w (of_a r) w' δ 22 4 24 := by
  intro b sb M B Qr Qx hO hB K
  show mw_Wp sc mw_Good d_L_act 22 (0, [some (.ref b), some (.int 15), some (.int a), some (.int b9), some (.int c9), none], [], M, 4, 24) Qr Qx
  refine lr _ (1, [some (.ref b), some (.int 15), some (.int a), some (.int b9), some (.int c9), none], [.int 15], M, 4, 24) l_L_act_0 rfl ?_
  refine lr _ (197, [some (.ref b), some (.int 15), some (.int a), some (.int b9), some (.int c9), none], [], M, 4, 24) l_L_act_1 rfl ?_
  refine lr _ (198, [some (.ref b), some (.int 15), some (.int a), some (.int b9), some (.int c9), none], [.ref b], M, 4, 24) l_L_act_197 rfl ?_
  refine lr _ (199, [some (.ref b), some (.int 15), some (.int a), some (.int b9), some (.int c9), none], [.int a, .ref b], M, 4, 24) l_L_act_198 rfl ?_
  refine lc_call [a] hc hO hB l_L_act_199 rfl rfl g_X11_bestLoad (by decide) (by decide) (by decide) rfl rfl (fun R9 h9 => Or.inl ⟨_, _, rfl, h9⟩) (of_v_nr _) (fun M1 O1 F1 => ?_)
  cases r with
  | inl e =>
    have hf : ∀ e, e < 5 → mw_hfind d_L_act.2.2.2.2.2 199 e = some (4294967295 - e) := by decide +kernel
    show mw_hx d_L_act 199 e Qr Qx M1
    unfold mw_hx
    rw [hf e (hr e rfl)]
    exact K M1 O1 F1
  | inr v =>
    show mw_Wp sc mw_Good d_L_act 22 (202, [some (.ref b), some (.int 15), some (.int a), some (.int b9), some (.int c9), none], [.int (Int32.ofInt v)], M1, 0, 0) Qr Qx
    exact lt_ret _ (some (.int (Int32.ofInt v))) l_L_act_202 rfl (K M1 O1 F1)
theorem a_act16 (a b9 c9 : Int32) (hc : of_call d_X11_bestLoadByTable [.inl a.toInt] w (of_v r) w' δ) (hr : of_e r 5) : la sc d_L_act [16, a, b9, c9] w (of_a r) w' δ 22 4 24 := by
  intro b sb M B Qr Qx hO hB K
  show mw_Wp sc mw_Good d_L_act 22 (0, [some (.ref b), some (.int 16), some (.int a), some (.int b9), some (.int c9), none], [], M, 4, 24) Qr Qx
  refine lr _ (1, [some (.ref b), some (.int 16), some (.int a), some (.int b9), some (.int c9), none], [.int 16], M, 4, 24) l_L_act_0 rfl ?_
  refine lr _ (203, [some (.ref b), some (.int 16), some (.int a), some (.int b9), some (.int c9), none], [], M, 4, 24) l_L_act_1 rfl ?_
  refine lr _ (204, [some (.ref b), some (.int 16), some (.int a), some (.int b9), some (.int c9), none], [.ref b], M, 4, 24) l_L_act_203 rfl ?_
  refine lr _ (205, [some (.ref b), some (.int 16), some (.int a), some (.int b9), some (.int c9), none], [.int a, .ref b], M, 4, 24) l_L_act_204 rfl ?_
  refine lc_call [a] hc hO hB l_L_act_205 rfl rfl g_X11_bestLoadByTable (by decide) (by decide) (by decide) rfl rfl (fun R9 h9 => Or.inl ⟨_, _, rfl, h9⟩) (of_v_nr _) (fun M1 O1 F1 => ?_)
  cases r with
  | inl e =>
    have hf : ∀ e, e < 5 → mw_hfind d_L_act.2.2.2.2.2 205 e = some (4294967295 - e) := by decide +kernel
    show mw_hx d_L_act 205 e Qr Qx M1
    unfold mw_hx
    rw [hf e (hr e rfl)]
    exact K M1 O1 F1
  | inr v =>
    show mw_Wp sc mw_Good d_L_act 22 (208, [some (.ref b), some (.int 16), some (.int a), some (.int b9), some (.int c9), none], [.int (Int32.ofInt v)], M1, 0, 0) Qr Qx
    exact lt_ret _ (some (.int (Int32.ofInt v))) l_L_act_208 rfl (K M1 O1 F1)
theorem a_act17 (a b9 c9 : Int32) (hc : of_call d_X11_channelBetween [.inl a.toInt, .inl b9.toInt] w (of_v r) w' δ) (hr : of_e r 5) : la sc d_L_act [17, a, b9, c9] w (of_a r) w' δ 22 4 24 := by
  intro b sb M B Qr Qx hO hB K
  show mw_Wp sc mw_Good d_L_act 22 (0, [some (.ref b), some (.int 17), some (.int a), some (.int b9), some (.int c9), none], [], M, 4, 24) Qr Qx
  refine lr _ (1, [some (.ref b), some (.int 17), some (.int a), some (.int b9), some (.int c9), none], [.int 17], M, 4, 24) l_L_act_0 rfl ?_
  refine lr _ (209, [some (.ref b), some (.int 17), some (.int a), some (.int b9), some (.int c9), none], [], M, 4, 24) l_L_act_1 rfl ?_
  refine lr _ (210, [some (.ref b), some (.int 17), some (.int a), some (.int b9), some (.int c9), none], [.ref b], M, 4, 24) l_L_act_209 rfl ?_
  refine lr _ (211, [some (.ref b), some (.int 17), some (.int a), some (.int b9), some (.int c9), none], [.int a, .ref b], M, 4, 24) l_L_act_210 rfl ?_
  refine lr _ (212, [some (.ref b), some (.int 17), some (.int a), some (.int b9), some (.int c9), none], [.int b9, .int a, .ref b], M, 4, 24) l_L_act_211 rfl ?_
  refine lc_call [a, b9] hc hO hB l_L_act_212 rfl rfl g_X11_channelBetween (by decide) (by decide) (by decide) rfl rfl (fun R9 h9 => Or.inl ⟨_, _, rfl, h9⟩) (of_v_nr _) (fun M1 O1 F1 => ?_)
  cases r with
  | inl e =>
    have hf : ∀ e, e < 5 → mw_hfind d_L_act.2.2.2.2.2 212 e = some (4294967295 - e) := by decide +kernel
    show mw_hx d_L_act 212 e Qr Qx M1
    unfold mw_hx
    rw [hf e (hr e rfl)]
    exact K M1 O1 F1
  | inr v =>
    show mw_Wp sc mw_Good d_L_act 22 (215, [some (.ref b), some (.int 17), some (.int a), some (.int b9), some (.int c9), none], [.int (Int32.ofInt v)], M1, 0, 0) Qr Qx
    exact lt_ret _ (some (.int (Int32.ofInt v))) l_L_act_215 rfl (K M1 O1 F1)
theorem a_act18 (a b9 c9 : Int32) (hc : of_call d_X11_shoreOf [.inl a.toInt] w (of_v r) w' δ) (hr : of_e r 5) : la sc d_L_act [18, a, b9, c9] w (of_a r) w' δ 22 4 24 := by
  intro b sb M B Qr Qx hO hB K
  show mw_Wp sc mw_Good d_L_act 22 (0, [some (.ref b), some (.int 18), some (.int a), some (.int b9), some (.int c9), none], [], M, 4, 24) Qr Qx
  refine lr _ (1, [some (.ref b), some (.int 18), some (.int a), some (.int b9), some (.int c9), none], [.int 18], M, 4, 24) l_L_act_0 rfl ?_
  refine lr _ (216, [some (.ref b), some (.int 18), some (.int a), some (.int b9), some (.int c9), none], [], M, 4, 24) l_L_act_1 rfl ?_
  refine lr _ (217, [some (.ref b), some (.int 18), some (.int a), some (.int b9), some (.int c9), none], [.ref b], M, 4, 24) l_L_act_216 rfl ?_
  refine lr _ (218, [some (.ref b), some (.int 18), some (.int a), some (.int b9), some (.int c9), none], [.int a, .ref b], M, 4, 24) l_L_act_217 rfl ?_
  refine lc_call [a] hc hO hB l_L_act_218 rfl rfl g_X11_shoreOf (by decide) (by decide) (by decide) rfl rfl (fun R9 h9 => Or.inl ⟨_, _, rfl, h9⟩) (of_v_nr _) (fun M1 O1 F1 => ?_)
  cases r with
  | inl e =>
    have hf : ∀ e, e < 5 → mw_hfind d_L_act.2.2.2.2.2 218 e = some (4294967295 - e) := by decide +kernel
    show mw_hx d_L_act 218 e Qr Qx M1
    unfold mw_hx
    rw [hf e (hr e rfl)]
    exact K M1 O1 F1
  | inr v =>
    show mw_Wp sc mw_Good d_L_act 22 (221, [some (.ref b), some (.int 18), some (.int a), some (.int b9), some (.int c9), none], [.int (Int32.ofInt v)], M1, 0, 0) Qr Qx
    exact lt_ret _ (some (.int (Int32.ofInt v))) l_L_act_221 rfl (K M1 O1 F1)
theorem a_act19 (a b9 c9 : Int32) (hc : of_call d_X11_ferryOf [.inl a.toInt] w (of_v r) w' δ) (hr : of_e r 5) : la sc d_L_act [19, a, b9, c9] w (of_a r) w' δ 22 4 24 := by
  intro b sb M B Qr Qx hO hB K
  show mw_Wp sc mw_Good d_L_act 22 (0, [some (.ref b), some (.int 19), some (.int a), some (.int b9), some (.int c9), none], [], M, 4, 24) Qr Qx
  refine lr _ (1, [some (.ref b), some (.int 19), some (.int a), some (.int b9), some (.int c9), none], [.int 19], M, 4, 24) l_L_act_0 rfl ?_
  refine lr _ (222, [some (.ref b), some (.int 19), some (.int a), some (.int b9), some (.int c9), none], [], M, 4, 24) l_L_act_1 rfl ?_
  refine lr _ (223, [some (.ref b), some (.int 19), some (.int a), some (.int b9), some (.int c9), none], [.ref b], M, 4, 24) l_L_act_222 rfl ?_
  refine lr _ (224, [some (.ref b), some (.int 19), some (.int a), some (.int b9), some (.int c9), none], [.int a, .ref b], M, 4, 24) l_L_act_223 rfl ?_
  refine lc_call [a] hc hO hB l_L_act_224 rfl rfl g_X11_ferryOf (by decide) (by decide) (by decide) rfl rfl (fun R9 h9 => Or.inl ⟨_, _, rfl, h9⟩) (of_v_nr _) (fun M1 O1 F1 => ?_)
  cases r with
  | inl e =>
    have hf : ∀ e, e < 5 → mw_hfind d_L_act.2.2.2.2.2 224 e = some (4294967295 - e) := by decide +kernel
    show mw_hx d_L_act 224 e Qr Qx M1
    unfold mw_hx
    rw [hf e (hr e rfl)]
    exact K M1 O1 F1
  | inr v =>
    show mw_Wp sc mw_Good d_L_act 22 (227, [some (.ref b), some (.int 19), some (.int a), some (.int b9), some (.int c9), none], [.int (Int32.ofInt v)], M1, 0, 0) Qr Qx
    exact lt_ret _ (some (.int (Int32.ofInt v))) l_L_act_227 rfl (K M1 O1 F1)
theorem a_act20 (a b9 c9 : Int32) (hc : of_call d_X11_targetOf [.inl a.toInt] w (of_v r) w' δ) (hr : of_e r 5) : la sc d_L_act [20, a, b9, c9] w (of_a r) w' δ 22 4 24 := by
  intro b sb M B Qr Qx hO hB K
  show mw_Wp sc mw_Good d_L_act 22 (0, [some (.ref b), some (.int 20), some (.int a), some (.int b9), some (.int c9), none], [], M, 4, 24) Qr Qx
  refine lr _ (1, [some (.ref b), some (.int 20), some (.int a), some (.int b9), some (.int c9), none], [.int 20], M, 4, 24) l_L_act_0 rfl ?_
  refine lr _ (228, [some (.ref b), some (.int 20), some (.int a), some (.int b9), some (.int c9), none], [], M, 4, 24) l_L_act_1 rfl ?_
  refine lr _ (229, [some (.ref b), some (.int 20), some (.int a), some (.int b9), some (.int c9), none], [.ref b], M, 4, 24) l_L_act_228 rfl ?_
  refine lr _ (230, [some (.ref b), some (.int 20), some (.int a), some (.int b9), some (.int c9), none], [.int a, .ref b], M, 4, 24) l_L_act_229 rfl ?_
  refine lc_call [a] hc hO hB l_L_act_230 rfl rfl g_X11_targetOf (by decide) (by decide) (by decide) rfl rfl (fun R9 h9 => Or.inl ⟨_, _, rfl, h9⟩) (of_v_nr _) (fun M1 O1 F1 => ?_)
  cases r with
  | inl e =>
    have hf : ∀ e, e < 5 → mw_hfind d_L_act.2.2.2.2.2 230 e = some (4294967295 - e) := by decide +kernel
    show mw_hx d_L_act 230 e Qr Qx M1
    unfold mw_hx
    rw [hf e (hr e rfl)]
    exact K M1 O1 F1
  | inr v =>
    show mw_Wp sc mw_Good d_L_act 22 (233, [some (.ref b), some (.int 20), some (.int a), some (.int b9), some (.int c9), none], [.int (Int32.ofInt v)], M1, 0, 0) Qr Qx
    exact lt_ret _ (some (.int (Int32.ofInt v))) l_L_act_233 rfl (K M1 O1 F1)
theorem a_act21 (a b9 c9 : Int32) (hc : of_call d_X11_craterOf [.inl a.toInt] w (of_v r) w' δ) (hr : of_e r 5) : la sc d_L_act [21, a, b9, c9] w (of_a r) w' δ 22 4 24 := by
  intro b sb M B Qr Qx hO hB K
  show mw_Wp sc mw_Good d_L_act 22 (0, [some (.ref b), some (.int 21), some (.int a), some (.int b9), some (.int c9), none], [], M, 4, 24) Qr Qx
  refine lr _ (1, [some (.ref b), some (.int 21), some (.int a), some (.int b9), some (.int c9), none], [.int 21], M, 4, 24) l_L_act_0 rfl ?_
  refine lr _ (234, [some (.ref b), some (.int 21), some (.int a), some (.int b9), some (.int c9), none], [], M, 4, 24) l_L_act_1 rfl ?_
  refine lr _ (235, [some (.ref b), some (.int 21), some (.int a), some (.int b9), some (.int c9), none], [.ref b], M, 4, 24) l_L_act_234 rfl ?_
  refine lr _ (236, [some (.ref b), some (.int 21), some (.int a), some (.int b9), some (.int c9), none], [.int a, .ref b], M, 4, 24) l_L_act_235 rfl ?_
  refine lc_call [a] hc hO hB l_L_act_236 rfl rfl g_X11_craterOf (by decide) (by decide) (by decide) rfl rfl (fun R9 h9 => Or.inl ⟨_, _, rfl, h9⟩) (of_v_nr _) (fun M1 O1 F1 => ?_)
  cases r with
  | inl e =>
    have hf : ∀ e, e < 5 → mw_hfind d_L_act.2.2.2.2.2 236 e = some (4294967295 - e) := by decide +kernel
    show mw_hx d_L_act 236 e Qr Qx M1
    unfold mw_hx
    rw [hf e (hr e rfl)]
    exact K M1 O1 F1
  | inr v =>
    show mw_Wp sc mw_Good d_L_act 22 (239, [some (.ref b), some (.int 21), some (.int a), some (.int b9), some (.int c9), none], [.int (Int32.ofInt v)], M1, 0, 0) Qr Qx
    exact lt_ret _ (some (.int (Int32.ofInt v))) l_L_act_239 rfl (K M1 O1 F1)
theorem a_channel (a b9 c9 d9 : Int32) (hc : of_call d_X11_addChannel [.inl a.toInt, .inl b9.toInt, .inl c9.toInt, .inl d9.toInt] w (of_v r) w' δ) (hr : of_e r 3) : la sc d_L_channel [a, b9, c9, d9] w (of_a r) w' δ 22 4 24 := by
  intro b sb M B Qr Qx hO hB K
  show mw_Wp sc mw_Good d_L_channel 22 (0, [some (.ref b), some (.int a), some (.int b9), some (.int c9), some (.int d9), none], [], M, 4, 24) Qr Qx
  refine lr _ (1, [some (.ref b), some (.int a), some (.int b9), some (.int c9), some (.int d9), none], [.ref b], M, 4, 24) l_L_channel_0 rfl ?_
  refine lr _ (2, [some (.ref b), some (.int a), some (.int b9), some (.int c9), some (.int d9), none], [.int a, .ref b], M, 4, 24) l_L_channel_1 rfl ?_
  refine lr _ (3, [some (.ref b), some (.int a), some (.int b9), some (.int c9), some (.int d9), none], [.int b9, .int a, .ref b], M, 4, 24) l_L_channel_2 rfl ?_
  refine lr _ (4, [some (.ref b), some (.int a), some (.int b9), some (.int c9), some (.int d9), none], [.int c9, .int b9, .int a, .ref b], M, 4, 24) l_L_channel_3 rfl ?_
  refine lr _ (6, [some (.ref b), some (.int a), some (.int b9), some (.int c9), some (.int d9), none], [.int d9, .int c9, .int b9, .int a, .ref b], M, 4, 24) l_L_channel_4 rfl ?_
  refine lc_call [a, b9, c9, d9] hc hO hB l_L_channel_6 rfl rfl g_X11_addChannel (by decide) (by decide) (by decide) rfl rfl (fun R9 h9 => Or.inl ⟨_, _, rfl, h9⟩) (of_v_nr _) (fun M1 O1 F1 => ?_)
  cases r with
  | inl e =>
    have hf : ∀ e, e < 3 → mw_hfind d_L_channel.2.2.2.2.2 6 e = some (4294967295 - e) := by decide +kernel
    show mw_hx d_L_channel 6 e Qr Qx M1
    unfold mw_hx
    rw [hf e (hr e rfl)]
    exact K M1 O1 F1
  | inr v =>
    show mw_Wp sc mw_Good d_L_channel 22 (9, [some (.ref b), some (.int a), some (.int b9), some (.int c9), some (.int d9), none], [.int (Int32.ofInt v)], M1, 0, 0) Qr Qx
    exact lt_ret _ (some (.int (Int32.ofInt v))) l_L_channel_9 rfl (K M1 O1 F1)
theorem a_moon (a b9 c9 d9 : Int32) (hc : of_call d_X11_addMoon [.inl a.toInt, .inl b9.toInt, .inl c9.toInt, .inl d9.toInt] w (of_v r) w' δ) (hr : of_e r 3) : la sc d_L_moon [a, b9, c9, d9] w (of_a r) w' δ 22 4 24 := by
  intro b sb M B Qr Qx hO hB K
  show mw_Wp sc mw_Good d_L_moon 22 (0, [some (.ref b), some (.int a), some (.int b9), some (.int c9), some (.int d9), none], [], M, 4, 24) Qr Qx
  refine lr _ (1, [some (.ref b), some (.int a), some (.int b9), some (.int c9), some (.int d9), none], [.ref b], M, 4, 24) l_L_moon_0 rfl ?_
  refine lr _ (2, [some (.ref b), some (.int a), some (.int b9), some (.int c9), some (.int d9), none], [.int a, .ref b], M, 4, 24) l_L_moon_1 rfl ?_
  refine lr _ (3, [some (.ref b), some (.int a), some (.int b9), some (.int c9), some (.int d9), none], [.int b9, .int a, .ref b], M, 4, 24) l_L_moon_2 rfl ?_
  refine lr _ (4, [some (.ref b), some (.int a), some (.int b9), some (.int c9), some (.int d9), none], [.int c9, .int b9, .int a, .ref b], M, 4, 24) l_L_moon_3 rfl ?_
  refine lr _ (6, [some (.ref b), some (.int a), some (.int b9), some (.int c9), some (.int d9), none], [.int d9, .int c9, .int b9, .int a, .ref b], M, 4, 24) l_L_moon_4 rfl ?_
  refine lc_call [a, b9, c9, d9] hc hO hB l_L_moon_6 rfl rfl g_X11_addMoon (by decide) (by decide) (by decide) rfl rfl (fun R9 h9 => Or.inl ⟨_, _, rfl, h9⟩) (of_v_nr _) (fun M1 O1 F1 => ?_)
  cases r with
  | inl e =>
    have hf : ∀ e, e < 3 → mw_hfind d_L_moon.2.2.2.2.2 6 e = some (4294967295 - e) := by decide +kernel
    show mw_hx d_L_moon 6 e Qr Qx M1
    unfold mw_hx
    rw [hf e (hr e rfl)]
    exact K M1 O1 F1
  | inr v =>
    show mw_Wp sc mw_Good d_L_moon 22 (9, [some (.ref b), some (.int a), some (.int b9), some (.int c9), some (.int d9), none], [.int (Int32.ofInt v)], M1, 0, 0) Qr Qx
    exact lt_ret _ (some (.int (Int32.ofInt v))) l_L_moon_9 rfl (K M1 O1 F1)
def of_r (r : Nat ⊕ Int) : Int32 := match r with
  | .inl e => Int32.ofNat (4294967296 - e)
  | .inr v => Int32.ofInt v
theorem a_runs (hc : of_call d_X11_run [] w (of_v r) w' δ) (hr : ∀ e, r = .inl e → e = 1 ∨ e = 2) : la sc d_L_runs [] w (of_r r) w' δ 22 4 24 := by
  intro b sb M B Qr Qx hO hB K
  show mw_Wp sc mw_Good d_L_runs 22 (0, [some (.ref b), none], [], M, 4, 24) Qr Qx
  refine lr _ (1, [some (.ref b), none], [.ref b], M, 4, 24) l_L_runs_0 rfl ?_
  refine lc_call [] hc hO hB l_L_runs_1 rfl rfl g_X11_run (by decide) (by decide) (by decide) rfl rfl (fun R9 h9 => Or.inl ⟨_, _, rfl, h9⟩) (of_v_nr _) (fun M1 O1 F1 => ?_)
  cases r with
  | inl e =>
    show mw_hx d_L_runs 1 e Qr Qx M1
    rcases hr e rfl with rfl | rfl
    · exact K M1 O1 F1
    · exact K M1 O1 F1
  | inr v =>
    show mw_Wp sc mw_Good d_L_runs 22 (4, [some (.ref b), none], [.int (Int32.ofInt v)], M1, 0, 0) Qr Qx
    exact lt_ret _ (some (.int (Int32.ofInt v))) l_L_runs_4 rfl (K M1 O1 F1)
end
