/-! what the third office answers -/
theorem of_call.ew {cd : mw_CD} {as : List nw_V} {w w' : of_S} {o : Nat ⊕ Option nw_V} {δ : Int} {g' : Int → Int} (h : of_call cd as w o w' δ) (e : sp_ew w'.1.1 g') : of_call cd as w o ((g', w'.1.2), w'.2) δ := fun sc J L W B Qr Qx hP hB hQ =>
  h sc J L W B Qr Qx hP hB (fun J' L' W' h' a b => hQ J' L' W' ⟨⟨h'.1.1.ew e, h'.1.2⟩, h'.2⟩ a b)
theorem la_v {sc : Nat × (Nat → Int32)} {cd : mw_CD} {as : List Int32} {w w' : of_S} {v v' : Int32} {δ : Int} {D c s : Nat} (h : la sc cd as w v w' δ D c s) (e : v = v') : la sc cd as w v' w' δ D c s := e ▸ h
def w_rn (s : of_S) (t : Int → Int) (g : Int → Int) : of_S := ((of_ok s g).1, s.2.1, (0, t), s.2.2.2)
abbrev w_l1 (k : Nat) : List Int := ts_23 ++ (dg (k + 1) ++ ts_24)
abbrev w_l2 (j : Nat) : List Int := ts_25 ++ (dg (j + 1) ++ ts_26)
abbrev w_l3 (j : Nat) : List Int := ts_25 ++ (dg (j + 1) ++ ts_27)
abbrev w_l4 (k : Nat) : List Int := ts_28 ++ (dg (k + 1) ++ ts_29)
theorem bt {b c : Bool} (h : (b && c) = true) : b = true ∧ c = true := (Bool.and_eq_true _ _).mp h
def z_b4bF (k j : Nat) : Bool := decide (c_btw (zt (z4l k j)) (zt (z4l k j) 56) 1 = 0 ∧ c_btw (zt (z6l k j)) (zt (z6l k j) 56) 0 = 0 ∧ c_btw (zt (z8l k j)) (zt (z8l k j) 56) 2 = 1 ∧ c_plc (zt (z6l k j)) 1 = 1 ∧ c_plc (zt (z10l k j)) 0 = 0)
theorem z_b4b : z_all z_b4bF = true := by decide +kernel
section
variable {sc : Nat × (Nat → Int32)} {k j : Nat} {w : of_S}
theorem f_run1 {q : Int × (Int → Int)} (hk : k < 4) (hj : j < 16) (hw : w.1.1 = zt (z0l k j)) (h1 : q.1 = ((w_l1 k).length : Int)) (h2 : ∀ s : Int, 0 ≤ s → s < ((w_l1 k).length : Int) → q.2 s = tx (w_l1 k) s) : of_call d_X11_run [] (of_T w q) (of_v (.inr 5)) (w_rn w q.2 (zt (z1l k j))) 2200 := by
  have a := z_ok z_t1 hk hj
  unfold z_t1F at a
  have b := c_co_ok (bt a).1
  have hc : tx_cm (w_l1 k) = (z_c1 k, -1) := of_decide_eq_true (List.all_eq_true.mp z_x1 k (List.mem_range.mpr hk))
  have h := o_runS (w := of_T w q) (l := w_l1 k) h1 h2 hc (by show cm_o w.1.1 _; rw [hw]; exact b.1)
  refine of_call.ew h ?_
  show sp_ew (cm_g w.1.1 (z_c1 k)) (zt (z1l k j))
  rw [hw, b.2]
  exact z_eq_ok (bt a).2
theorem f_run2 {q : Int × (Int → Int)} (hk : k < 4) (hj : j < 16) (hw : w.1.1 = zt (z1l k j)) (h1 : q.1 = ((w_l2 j).length : Int)) (h2 : ∀ s : Int, 0 ≤ s → s < ((w_l2 j).length : Int) → q.2 s = tx (w_l2 j) s) : la sc d_L_runs [] (of_T w q) (-2) (w_fl w 3 q.2) 2200 22 4 24 := by
  have a := z_ok z_t3 hk hj
  unfold z_t3F at a
  have b := c_co_ok (bt a).1
  have hc : tx_cm (w_l2 j) = (z_c3 j ++ [(3, 0, 1, 30, 8)], -1) := of_decide_eq_true (List.all_eq_true.mp z_x3 j (List.mem_range.mpr hj))
  have hf := c_of_ok (bt a).2
  rw [← b.2] at hf
  have h : of_call d_X11_run [] (of_T w q) (of_v (.inl 2)) (w_fl w 3 q.2) 2200 := o_runF (w := of_T w q) (l := w_l2 j) (a := z_c3 j) (b := []) (c := (3, 0, 1, 30, 8)) (e := -2) (r := 0) h1 h2 hc (by show cm_o w.1.1 _; rw [hw]; exact b.1) (by show sp_of 3 (cm_g w.1.1 (z_c3 j)) 0 1 30 8 (-2) 0; rw [hw]; exact hf)
  exact la_v (a_runs h (fun e he => by cases he; exact Or.inr rfl)) (by decide)
theorem f_run3 {q : Int × (Int → Int)} (hk : k < 4) (hj : j < 16) (hw : w.1.1 = zt (z1l k j)) (h1 : q.1 = ((w_l3 j).length : Int)) (h2 : ∀ s : Int, 0 ≤ s → s < ((w_l3 j).length : Int) → q.2 s = tx (w_l3 j) s) : of_call d_X11_run [] (of_T w q) (of_v (.inr 4)) (w_rn w q.2 (zt (z2l k j))) 2200 := by
  have a := z_ok z_t2 hk hj
  unfold z_t2F at a
  have b := c_co_ok a
  have hc : tx_cm (w_l3 j) = (z_c2 j, -1) := of_decide_eq_true (List.all_eq_true.mp z_x2 j (List.mem_range.mpr hj))
  have h := o_runS (w := of_T w q) (l := w_l3 j) h1 h2 hc (by show cm_o w.1.1 _; rw [hw]; exact b.1)
  refine of_call.ew h ?_
  show sp_ew (cm_g w.1.1 (z_c2 j)) (zt (z2l k j))
  rw [hw, b.2, z_e2]
  exact fun _ _ _ => rfl
theorem y_n1 (hk : k < 4) (hj : j < 16) (hw : w.1.1 = zt (z1l k j)) : of_call d_X11_cheapestNet [] w (of_v (.inr ((k : Int) + 4))) w 0 := by
  show of_call d_X11_cheapestNet [] w _ w 0
  refine q_cheapestNet (fun k9 v9 h => qo (q_cheapestNet_u (k := 0) (v := (k : Int) + 4) ?_ h))
  unfold q_cheapestNet_s
  rw [hw]
  exact Or.inr ⟨rfl, Int.le_of_eq (z_n1 hk).1, (z_n1 hk).2.symm⟩
theorem y_n2 (hk : k < 4) (hj : j < 16) (hw : w.1.1 = zt (z1l k j)) : of_call d_X11_cheapestNetByGrowing [] w (of_v (.inr ((k : Int) + 4))) w 0 := by
  show of_call d_X11_cheapestNetByGrowing [] w _ w 0
  refine q_cheapestNetByGrowing (fun k9 v9 h => qo (q_cheapestNetByGrowing_u (k := 0) (v := (k : Int) + 4) ?_ h))
  unfold q_cheapestNetByGrowing_s
  rw [hw]
  exact Or.inr ⟨rfl, Int.le_of_eq (z_n1 hk).1, (z_n1 hk).2.symm⟩
theorem y_w1 (hk : k < 4) (hj : j < 16) (hw : w.1.1 = zt (z1l k j)) : of_call d_X11_wayHours ([(0 : Int32), 2].map (fun v => (.inl v.toInt : nw_V))) w (of_v (.inr ((k : Int) + 4))) w 0 := by
  show of_call d_X11_wayHours [.inl 0, .inl 2] w _ w 0
  have q := z_ok z_q1 hk hj
  unfold z_q1F at q
  have q := of_decide_eq_true q
  refine q_wayHours (fun k9 v9 h => qo (q_wayHours_u (k := 0) (v := (k : Int) + 4) ?_ h))
  unfold q_wayHours_s
  rw [hw]
  rw [c_D_eq, q.1, q.2.2.1]
  exact Or.inr (Or.inr ⟨rfl, by decide, by omega, rfl⟩)
theorem y_w2 (hk : k < 4) (hj : j < 16) (hw : w.1.1 = zt (z1l k j)) : of_call d_X11_wayHoursByTable ([(2 : Int32), 0].map (fun v => (.inl v.toInt : nw_V))) w (of_v (.inr ((k : Int) + 4))) w 0 := by
  show of_call d_X11_wayHoursByTable [.inl 2, .inl 0] w _ w 0
  have q := z_ok z_q1 hk hj
  unfold z_q1F at q
  have q := of_decide_eq_true q
  refine q_wayHoursByTable (fun k9 v9 h => qo (q_wayHoursByTable_u (k := 0) (v := (k : Int) + 4) ?_ h))
  unfold q_wayHoursByTable_s
  rw [hw]
  rw [c_D_eq, q.2.1, q.2.2.1]
  exact Or.inr (Or.inr ⟨rfl, by decide, by omega, rfl⟩)
theorem y_w3 (hk : k < 4) (hj : j < 16) (hw : w.1.1 = zt (z1l k j)) : of_call d_X11_wayHours ([(0 : Int32), 3].map (fun v => (.inl v.toInt : nw_V))) w (of_v (.inl 0)) w 0 := by
  show of_call d_X11_wayHours [.inl 0, .inl 3] w _ w 0
  have q := z_ok z_q1 hk hj
  unfold z_q1F at q
  have q := of_decide_eq_true q
  refine q_wayHours (fun k9 v9 h => qx (k := 1) (v := 0) rfl (q_wayHours_u (k := 1) (v := 0) ?_ h))
  unfold q_wayHours_s
  rw [hw]
  rw [q.2.2.1]
  exact Or.inl ⟨rfl, by decide⟩
theorem y_mc1 (hk : k < 4) (hj : j < 16) (hw : w.1.1 = zt (z1l k j)) : of_call d_X11_moonCount [] w (of_v (.inr (0))) w 0 := by
  show of_call d_X11_moonCount [] w _ w 0
  have q := z_ok z_q1 hk hj
  unfold z_q1F at q
  have q := of_decide_eq_true q
  refine q_moonCount (fun k9 v9 h => qo (q_moonCount_u (k := 0) (v := 0) ?_ h))
  unfold q_moonCount_s
  rw [hw]
  exact ⟨rfl, q.2.2.2.1.symm⟩
theorem y_cc1 (hk : k < 4) (hj : j < 16) (hw : w.1.1 = zt (z1l k j)) : of_call d_X11_channelCount [] w (of_v (.inr (2))) w 0 := by
  show of_call d_X11_channelCount [] w _ w 0
  have q := z_ok z_q1 hk hj
  unfold z_q1F at q
  have q := of_decide_eq_true q
  refine q_channelCount (fun k9 v9 h => qo (q_channelCount_u (k := 0) (v := 2) ?_ h))
  unfold q_channelCount_s
  rw [hw]
  exact ⟨rfl, q.2.2.2.2.symm⟩
theorem y_f0 (hk : k < 4) (hj : j < 16) (hw : w.1.1 = zt (z2l k j)) : of_call d_X11_fareOf ([(0 : Int32)].map (fun v => (.inl v.toInt : nw_V))) w (of_v (.inr (5 * ((k : Int) + 4)))) w 0 := by
  show of_call d_X11_fareOf [.inl 0] w _ w 0
  have q := z_ok z_q2 hk hj
  unfold z_q2F at q
  have q := of_decide_eq_true q
  refine q_fareOf (fun k9 v9 h => qo (q_fareOf_u (k := 0) (v := 5 * ((k : Int) + 4)) ?_ h))
  unfold q_fareOf_s
  rw [hw]
  rw [c_plc_eq, q.1, c_fare_eq, q.2.2.2.1]
  exact Or.inr ⟨rfl, by decide, rfl⟩
theorem y_f1 (hk : k < 4) (hj : j < 16) (hw : w.1.1 = zt (z2l k j)) : of_call d_X11_fareOf ([(1 : Int32)].map (fun v => (.inl v.toInt : nw_V))) w (of_v (.inr (3 * ((k : Int) + 4)))) w 0 := by
  show of_call d_X11_fareOf [.inl 1] w _ w 0
  have q := z_ok z_q2 hk hj
  unfold z_q2F at q
  have q := of_decide_eq_true q
  refine q_fareOf (fun k9 v9 h => qo (q_fareOf_u (k := 0) (v := 3 * ((k : Int) + 4)) ?_ h))
  unfold q_fareOf_s
  rw [hw]
  rw [c_plc_eq, q.2.1, c_fare_eq, q.2.2.2.2.1]
  exact Or.inr ⟨rfl, by decide, rfl⟩
theorem y_f2 (hk : k < 4) (hj : j < 16) (hw : w.1.1 = zt (z2l k j)) : of_call d_X11_fareOf ([(2 : Int32)].map (fun v => (.inl v.toInt : nw_V))) w (of_v (.inr (2 * ((k : Int) + 1)))) w 0 := by
  show of_call d_X11_fareOf [.inl 2] w _ w 0
  have q := z_ok z_q2 hk hj
  unfold z_q2F at q
  have q := of_decide_eq_true q
  refine q_fareOf (fun k9 v9 h => qo (q_fareOf_u (k := 0) (v := 2 * ((k : Int) + 1)) ?_ h))
  unfold q_fareOf_s
  rw [hw]
  rw [c_plc_eq, q.2.2.1, c_fare_eq, q.2.2.2.2.2.1]
  exact Or.inr ⟨rfl, by decide, rfl⟩
theorem y_rk0 (hk : k < 4) (hj : j < 16) (hw : w.1.1 = zt (z2l k j)) : of_call d_X11_moonAtRank ([(0 : Int32)].map (fun v => (.inl v.toInt : nw_V))) w (of_v (.inr (0))) w 0 := by
  show of_call d_X11_moonAtRank [.inl 0] w _ w 0
  have q := z_ok z_q2 hk hj
  unfold z_q2F at q
  have q := of_decide_eq_true q
  have r := z_ok z_r2 hk hj
  unfold z_r2F at r
  have r := of_decide_eq_true r
  refine q_moonAtRank (fun k9 v9 h => qo (q_moonAtRank_u (k := 0) (v := 0) ?_ h))
  unfold q_moonAtRank_s
  rw [hw]
  rw [q.2.2.2.2.2.2.1]
  exact Or.inr ⟨rfl, by decide, 0, by decide, by decide, by have h9 := c_at_ok (zt (z2l k j)) 0; rw [r.1, q.2.2.2.2.2.2.1] at h9; exact h9, q.2.2.2.2.2.2.2.2.1.symm⟩
theorem y_rk2 (hk : k < 4) (hj : j < 16) (hw : w.1.1 = zt (z2l k j)) : of_call d_X11_moonAtRank ([(2 : Int32)].map (fun v => (.inl v.toInt : nw_V))) w (of_v (.inr (2))) w 0 := by
  show of_call d_X11_moonAtRank [.inl 2] w _ w 0
  have q := z_ok z_q2 hk hj
  unfold z_q2F at q
  have q := of_decide_eq_true q
  have r := z_ok z_r2 hk hj
  unfold z_r2F at r
  have r := of_decide_eq_true r
  refine q_moonAtRank (fun k9 v9 h => qo (q_moonAtRank_u (k := 0) (v := 2) ?_ h))
  unfold q_moonAtRank_s
  rw [hw]
  rw [q.2.2.2.2.2.2.1]
  exact Or.inr ⟨rfl, by decide, 2, by decide, by decide, by have h9 := c_at_ok (zt (z2l k j)) 2; rw [r.2.1, q.2.2.2.2.2.2.1] at h9; exact h9, q.2.2.2.2.2.2.2.2.2.1.symm⟩
theorem i_3n (hk : k < 4) : (3 * (Int32.ofInt ((k : Int) + 1) + 3)).toInt = 3 * ((k : Int) + 4) := (by decide +kernel : ∀ k : Nat, k < 4 → (3 * (Int32.ofInt ((k : Int) + 1) + 3)).toInt = 3 * ((k : Int) + 4)) k hk
theorem i_20n (hk : k < 4) : (20 - Int32.ofInt ((k : Int) + 1)).toInt = ((19 - k : Nat) : Int) := (by decide +kernel : ∀ k : Nat, k < 4 → (20 - Int32.ofInt ((k : Int) + 1)).toInt = ((19 - k : Nat) : Int)) k hk
theorem i_n (hk : k < 4) : (Int32.ofInt ((k : Int) + 1)).toInt = ((k + 1 : Nat) : Int) := (by decide +kernel : ∀ k : Nat, k < 4 → (Int32.ofInt ((k : Int) + 1)).toInt = ((k + 1 : Nat) : Int)) k hk
theorem y_cb (hk : k < 4) (hj : j < 16) (hw : w.1.1 = zt (z2l k j)) : of_call d_X11_countBelow ([(3 * (Int32.ofInt ((k : Int) + 1) + 3) : Int32)].map (fun v => (.inl v.toInt : nw_V))) w (of_v (.inr (1))) w 0 := by
  rw [List.map_cons, List.map_nil, i_3n hk]
  have r := z_ok z_r2 hk hj
  unfold z_r2F at r
  have r := of_decide_eq_true r
  refine q_countBelow (fun k9 v9 h => qo (q_countBelow_u (k := 0) (v := 1) ?_ h))
  unfold q_countBelow_s
  rw [hw]
  rw [c_cl_eq, r.2.2]
  exact ⟨rfl, rfl⟩
theorem y_ca (hk : k < 4) (hj : j < 16) (hw : w.1.1 = zt (z2l k j)) : of_call d_X11_countBelowByAsking ([(3 * (Int32.ofInt ((k : Int) + 1) + 3) : Int32)].map (fun v => (.inl v.toInt : nw_V))) w (of_v (.inr (1))) w 0 := by
  rw [List.map_cons, List.map_nil, i_3n hk]
  have r := z_ok z_r2 hk hj
  unfold z_r2F at r
  have r := of_decide_eq_true r
  refine q_countBelowByAsking (fun k9 v9 h => qo (q_countBelowByAsking_u (k := 0) (v := 1) ?_ h))
  unfold q_countBelowByAsking_s
  rw [hw]
  rw [c_less_eq, r.2.2]
  exact ⟨rfl, rfl⟩
theorem y_s2 (hk : k < 4) (hj : j < 16) (hw : w.1.1 = zt (z2l k j)) : of_call d_X11_isStranded ([(0 : Int32)].map (fun v => (.inl v.toInt : nw_V))) w (of_v (.inr (1))) w 0 := by
  show of_call d_X11_isStranded [.inl 0] w _ w 0
  have q := z_ok z_q2 hk hj
  unfold z_q2F at q
  have q := of_decide_eq_true q
  refine q_isStranded (fun k9 v9 h => qo (q_isStranded_u (k := 0) (v := 1) ?_ h))
  unfold q_isStranded_s
  rw [hw]
  rw [c_sS_eq, q.2.2.2.2.2.2.2.1, q.2.2.2.2.2.2.2.2.2.2.2.2]
  exact Or.inr ⟨rfl, by decide, rfl⟩
theorem y_bl (hk : k < 4) (hj : j < 16) (hw : w.1.1 = zt (z2l k j)) : of_call d_X11_bestLoad ([(0 : Int32)].map (fun v => (.inl v.toInt : nw_V))) w (of_v (.inr (8 * ((k : Int) + 4)))) w 0 := by
  show of_call d_X11_bestLoad [.inl 0] w _ w 0
  have q := z_ok z_q2 hk hj
  unfold z_q2F at q
  have q := of_decide_eq_true q
  have r := z_ok z_q2b hk hj
  unfold z_q2bF at r
  have r := of_decide_eq_true r
  refine q_bestLoad (fun k9 v9 h => qo (q_bestLoad_u (k := 0) (v := 8 * ((k : Int) + 4)) ?_ h))
  unfold q_bestLoad_s
  rw [hw]
  rw [c_best_eq, q.2.2.2.2.2.2.2.1]
  exact Or.inr (Or.inr ⟨rfl, by decide, Int.le_of_eq q.2.2.2.2.2.2.2.2.2.2.1, r.symm⟩)
theorem y_bt (hk : k < 4) (hj : j < 16) (hw : w.1.1 = zt (z2l k j)) : of_call d_X11_bestLoadByTable ([(0 : Int32)].map (fun v => (.inl v.toInt : nw_V))) w (of_v (.inr (8 * ((k : Int) + 4)))) w 0 := by
  show of_call d_X11_bestLoadByTable [.inl 0] w _ w 0
  have q := z_ok z_q2 hk hj
  unfold z_q2F at q
  have q := of_decide_eq_true q
  have r := z_ok z_q2b hk hj
  unfold z_q2bF at r
  have r := of_decide_eq_true r
  refine q_bestLoadByTable (fun k9 v9 h => qo (q_bestLoadByTable_u (k := 0) (v := 8 * ((k : Int) + 4)) ?_ h))
  unfold q_bestLoadByTable_s
  rw [hw]
  rw [c_best_eq, q.2.2.2.2.2.2.2.1]
  exact Or.inr (Or.inr ⟨rfl, by decide, Int.le_of_eq q.2.2.2.2.2.2.2.2.2.2.1, r.symm⟩)
theorem y_a3 (hk : k < 4) (hj : j < 16) (hw : w.1.1 = zt (z2l k j)) : la sc d_L_act [5, 0, 0, 0] w (-4) (of_fl w 0) 200 22 4 24 := by
  have q := z_ok z_f3 hk hj
  unfold z_f3F at q
  have q := c_of_ok q
  rw [← hw] at q
  have h : of_call d_X11_loadBest [.inl (0 : Int32).toInt] w (of_v (.inl 3)) (of_fl w 0) 200 := of_loadBest.2.1 (-4) 0 q
  exact la_v (a_act5 0 0 0 h (fun e he => by cases he; decide)) (by decide)
theorem y_a4b (hk : k < 4) (hj : j < 16) (hw : w.1.1 = zt (z2l k j)) : la sc d_L_act [3, 0, 0, 0] w (-4) (of_fl w 5) 200 22 4 24 := by
  have q := z_ok z_f4 hk hj
  unfold z_f4F at q
  have q := c_of_ok q
  rw [← hw] at q
  have h : of_call d_X11_board [.inl (0 : Int32).toInt, .inl (0 : Int32).toInt] w (of_v (.inl 3)) (of_fl w 5) 200 := of_board.2.1 (-4) 5 q
  exact la_v (a_act3 0 0 0 h (fun e he => by cases he; decide)) (by decide)
theorem y_a5 (hk : k < 4) (hj : j < 16) (hw : w.1.1 = zt (z2l k j)) : la sc d_L_act [2, 0, 2, 0] w (-4) (of_fl w 1) 200 22 4 24 := by
  have q := z_ok z_f5 hk hj
  unfold z_f5F at q
  have q := c_of_ok q
  rw [← hw] at q
  have h : of_call d_X11_sail [.inl (0 : Int32).toInt, .inl (2 : Int32).toInt] w (of_v (.inl 3)) (of_fl w 1) 200 := of_sail.2.1 (-4) 1 q
  exact la_v (a_act2 0 2 0 h (fun e he => by cases he; decide)) (by decide)
theorem y_a6 (hk : k < 4) (hj : j < 16) (hw : w.1.1 = zt (z2l k j)) : la sc d_L_act [2, 0, 1, 0] w (-4) (of_fl w 2) 200 22 4 24 := by
  have q := z_ok z_f6 hk hj
  unfold z_f6F at q
  have q := c_of_ok q
  rw [← hw] at q
  have h : of_call d_X11_sail [.inl (0 : Int32).toInt, .inl (1 : Int32).toInt] w (of_v (.inl 3)) (of_fl w 2) 200 := of_sail.2.1 (-4) 2 q
  exact la_v (a_act2 0 1 0 h (fun e he => by cases he; decide)) (by decide)
theorem y_a7 (hk : k < 4) (hj : j < 16) (hw : w.1.1 = zt (z4l k j)) : la sc d_L_act [3, 0, 2, 0] w (-4) (of_fl w 6) 200 22 4 24 := by
  have q := z_ok z_f7 hk hj
  unfold z_f7F at q
  have q := c_of_ok q
  rw [← hw] at q
  have h : of_call d_X11_board [.inl (0 : Int32).toInt, .inl (2 : Int32).toInt] w (of_v (.inl 3)) (of_fl w 6) 200 := of_board.2.1 (-4) 6 q
  exact la_v (a_act3 0 2 0 h (fun e he => by cases he; decide)) (by decide)
theorem y_a8 (hk : k < 4) (hj : j < 16) (hw : w.1.1 = zt (z4l k j)) : la sc d_L_act [3, 0, 1, 0] w (-3) (of_fl w 0) 200 22 4 24 := by
  have q := z_ok z_f8 hk hj
  unfold z_f8F at q
  have q := c_of_ok q
  rw [← hw] at q
  have h : of_call d_X11_board [.inl (0 : Int32).toInt, .inl (1 : Int32).toInt] w (of_v (.inl 2)) (of_fl w 0) 200 := of_board.2.1 (-3) 0 q
  exact la_v (a_act3 0 1 0 h (fun e he => by cases he; decide)) (by decide)
theorem y_a9 (hk : k < 4) (hj : j < 16) (hw : w.1.1 = zt (z5l k j)) : la sc d_L_act [4, 0, 0, 0] w (-4) (of_fl w 0) 200 22 4 24 := by
  have q := z_ok z_f9 hk hj
  unfold z_f9F at q
  have q := c_of_ok q
  rw [← hw] at q
  have h : of_call d_X11_land [.inl (0 : Int32).toInt] w (of_v (.inl 3)) (of_fl w 0) 200 := of_land.2.1 (-4) 0 q
  exact la_v (a_act4 0 0 0 h (fun e he => by cases he; decide)) (by decide)
theorem y_a10 (hk : k < 4) (hj : j < 16) (hw : w.1.1 = zt (z5l k j)) : la sc d_L_act [8, 0, 0, 0] w (-3) (of_fl w 0) 200 22 4 24 := by
  have q := z_ok z_f10 hk hj
  unfold z_f10F at q
  have q := c_of_ok q
  rw [← hw] at q
  have h : of_call d_X11_removeChannel [.inl (0 : Int32).toInt] w (of_v (.inl 2)) (of_fl w 0) 200 := of_removeChannel.2.1 (-3) 0 q
  exact la_v (a_act8 0 0 0 h (fun e he => by cases he; decide)) (by decide)
theorem y_a11 (hk : k < 4) (hj : j < 16) (hw : w.1.1 = zt (z13l k j)) : la sc d_L_act [6, 0, 0, 0] w (-3) (of_fl w 0) 200 22 4 24 := by
  have q := z_ok z_f11 hk hj
  unfold z_f11F at q
  have q := c_of_ok q
  rw [← hw] at q
  have h : of_call d_X11_rescue [.inl (0 : Int32).toInt] w (of_v (.inl 2)) (of_fl w 0) 200 := of_rescue.2.1 (-3) 0 q
  exact la_v (a_act6 0 0 0 h (fun e he => by cases he; decide)) (by decide)
theorem y_rr {r : Int} (hr : ¬ r = 0) (h1 : ¬ r = -1) : of_call d_X11_refusalReason [] (of_fl w r) (of_v (.inr r)) (of_fl w r) 0 := by
  refine q_refusalReason (fun k9 v9 h => qo (q_refusalReason_u (k := 0) (v := r) ?_ h))
  have e : (of_fl w r).2.1.1 = r := if_neg hr
  unfold q_refusalReason_s
  rw [e]
  exact Or.inr ⟨rfl, h1, rfl⟩
theorem y_w3a (hk : k < 4) (hj : j < 16) (hw : w.1.1 = zt (z1l k j)) : la sc d_L_act [9, 0, 3, 0] w (-1) w 0 22 4 24 := la_v (a_act9 0 3 0 (y_w3 hk hj hw) (fun e he => by cases he; decide)) (by decide)
theorem y_ea0 (hk : k < 4) (hj : j < 16) (hw : w.1.1 = zt (z2l k j)) : of_call d_X11_earliestArrival ([(0 : Int32), 0].map (fun v => (.inl v.toInt : nw_V))) w (of_v (.inr (0))) w 0 := by
  show of_call d_X11_earliestArrival [.inl 0, .inl 0] w _ w 0
  have q := z_ok z_q2 hk hj
  unfold z_q2F at q
  have q := of_decide_eq_true q
  refine q_earliestArrival (fun k9 v9 h => qo (q_earliestArrival_u (k := 0) (v := 0) ?_ h))
  unfold q_earliestArrival_s
  rw [hw]
  have e0 : zt (z2l k j) 0 = 0 := zt_at 0 rfl (by decide) rfl
  rw [q.2.2.2.2.2.2.2.1, q.2.2.2.2.2.2.2.2.2.2.2.1, e0]
  exact Or.inr (Or.inr ⟨rfl, by decide, z_ea0, by omega⟩)
theorem y_ea1 (hk : k < 4) (hj : j < 16) (hw : w.1.1 = zt (z2l k j)) : of_call d_X11_earliestArrival ([(0 : Int32), 1].map (fun v => (.inl v.toInt : nw_V))) w (of_v (.inr ((k : Int) + 2))) w 0 := by
  show of_call d_X11_earliestArrival [.inl 0, .inl 1] w _ w 0
  have q := z_ok z_q2 hk hj
  unfold z_q2F at q
  have q := of_decide_eq_true q
  refine q_earliestArrival (fun k9 v9 h => qo (q_earliestArrival_u (k := 0) (v := (k : Int) + 2) ?_ h))
  unfold q_earliestArrival_s
  rw [hw]
  have e0 : zt (z2l k j) 0 = 0 := zt_at 0 rfl (by decide) rfl
  rw [q.2.2.2.2.2.2.2.1, q.2.2.2.2.2.2.2.2.2.2.2.1, e0]
  exact Or.inr (Or.inr ⟨rfl, by decide, z_ea1, by omega⟩)
theorem y_eh1 (hk : k < 4) (hj : j < 16) (hw : w.1.1 = zt (z2l k j)) : of_call d_X11_earliestArrivalByHours ([(0 : Int32), 1].map (fun v => (.inl v.toInt : nw_V))) w (of_v (.inr ((k : Int) + 2))) w 0 := by
  show of_call d_X11_earliestArrivalByHours [.inl 0, .inl 1] w _ w 0
  have q := z_ok z_q2 hk hj
  unfold z_q2F at q
  have q := of_decide_eq_true q
  refine q_earliestArrivalByHours (fun k9 v9 h => qo (q_earliestArrivalByHours_u (k := 0) (v := (k : Int) + 2) ?_ h))
  unfold q_earliestArrivalByHours_s
  rw [hw]
  have e0 : zt (z2l k j) 0 = 0 := zt_at 0 rfl (by decide) rfl
  rw [q.2.2.2.2.2.2.2.1, q.2.2.2.2.2.2.2.2.2.2.2.1, e0]
  exact Or.inr (Or.inr ⟨rfl, by decide, z_ea1, by omega⟩)
theorem f_pass {a : Int32} {n : Nat} {g' : Int → Int} {v : Int} (ha : a.toInt = (n : Int)) (h : 1 ≤ n ∧ n ≤ 48) (e : sp_pass w.1.1 n = (g', v)) : of_call d_X11_pass ([a].map (fun v => (.inl v.toInt : nw_V))) w (of_v (.inr v)) (of_ok w g') 200 := by
  show of_call d_X11_pass [.inl a.toInt] w _ _ 200
  rw [ha]
  have h9 := (of_pass (w := w) (a := (n : Int))).1 (show 1 ≤ (n : Int) ∧ (n : Int) ≤ 48 by omega)
  have e1 : sp_ov 9 w.1.1 (n : Int) 0 = v := by
    show (sp_pass w.1.1 (n : Int).toNat).2 = v
    rw [Int.toNat_natCast, e]
  have e2 : sp_og 9 w.1.1 (n : Int) 0 0 0 = g' := by
    show (sp_pass w.1.1 (n : Int).toNat).1 = g'
    rw [Int.toNat_natCast, e]
  rw [e1, e2] at h9
  exact h9
theorem y_p3 (hw : w.1.1 = zt (z2l k j)) : of_call d_X11_pass ([(1 : Int32)].map (fun v => (.inl v.toInt : nw_V))) w (of_v (.inr 0)) (of_ok w (zt (z3l k j))) 200 := f_pass (n := 1) (by decide) (by decide) (by rw [hw]; exact z_e3)
theorem y_p6 (hk : k < 4) (hw : w.1.1 = zt (z5l k j)) : of_call d_X11_pass ([(Int32.ofInt ((k : Int) + 1) : Int32)].map (fun v => (.inl v.toInt : nw_V))) w (of_v (.inr 1)) (of_ok w (zt (z6l k j))) 200 := f_pass (n := k + 1) (i_n hk) (by omega) (by rw [hw]; exact z_e6 hk)
theorem y_p10 (hk : k < 4) (hw : w.1.1 = zt (z9l k j)) : of_call d_X11_pass ([(3 : Int32)].map (fun v => (.inl v.toInt : nw_V))) w (of_v (.inr 1)) (of_ok w (zt (z10l k j))) 200 := f_pass (n := 3) (by decide) (by decide) (by rw [hw]; exact z_e10 hk)
theorem y_p14 (hk : k < 4) (hw : w.1.1 = zt (z13l k j)) : of_call d_X11_pass ([(20 - Int32.ofInt ((k : Int) + 1) : Int32)].map (fun v => (.inl v.toInt : nw_V))) w (of_v (.inr 0)) (of_ok w (zt (z14l k j))) 200 := f_pass (n := 19 - k) (i_20n hk) (by omega) (by rw [hw]; exact z_e14 hk)
theorem y_s3 (hk : k < 4) (hj : j < 16) (hw : w.1.1 = zt (z3l k j)) : of_call d_X11_isStranded ([(0 : Int32)].map (fun v => (.inl v.toInt : nw_V))) w (of_v (.inr (0))) w 0 := by
  show of_call d_X11_isStranded [.inl 0] w _ w 0
  have q := z_ok z_q3 hk hj
  unfold z_q3F at q
  have q := of_decide_eq_true q
  refine q_isStranded (fun k9 v9 h => qo (q_isStranded_u (k := 0) (v := 0) ?_ h))
  unfold q_isStranded_s
  rw [hw]
  rw [c_sS_eq, q.1, q.2]
  exact Or.inr ⟨rfl, by decide, rfl⟩
theorem y_lo (hk : k < 4) (hj : j < 16) (hw : w.1.1 = zt (z4l k j)) : of_call d_X11_loadOf ([(0 : Int32)].map (fun v => (.inl v.toInt : nw_V))) w (of_v (.inr ((j : Int) + 25))) w 0 := by
  show of_call d_X11_loadOf [.inl 0] w _ w 0
  have q := z_ok z_q4 hk hj
  unfold z_q4F at q
  have q := of_decide_eq_true q
  refine q_loadOf (fun k9 v9 h => qo (q_loadOf_u (k := 0) (v := (j : Int) + 25) ?_ h))
  unfold q_loadOf_s
  rw [hw]
  rw [q.1, q.2]
  exact Or.inr ⟨rfl, by decide, rfl⟩
theorem y_c4 (hk : k < 4) (hj : j < 16) (hw : w.1.1 = zt (z3l k j)) : of_call d_X11_loadBest ([(0 : Int32)].map (fun v => (.inl v.toInt : nw_V))) w (of_v (.inr (2))) (of_ok w (zt (z4l k j))) 200 := by
  show of_call d_X11_loadBest [.inl 0] w _ _ 200
  have q := z_ok z_s4 hk hj
  unfold z_s4F at q
  have q1 := (bt q).1
  have q2 := bt (bt q).2
  have qv := of_decide_eq_true q2.2
  have h := (of_loadBest (w := w) (a := 0)).1 (by rw [hw]; exact c_oo_ok q2.1)
  have e1 : sp_ov 7 w.1.1 0 0 = 2 := by rw [hw, c_ov_eq q1, qv]
  have e2 : sp_og 7 w.1.1 0 0 0 0 = zt (z4l k j) := by
    rw [hw]
    exact z_e4 hk hj
  rw [e1, e2] at h
  exact h
theorem y_c5 (hk : k < 4) (hj : j < 16) (hw : w.1.1 = zt (z4l k j)) : of_call d_X11_sail ([(0 : Int32), 1].map (fun v => (.inl v.toInt : nw_V))) w (of_v (.inr ((k : Int) + 2))) (of_ok w (zt (z5l k j))) 200 := by
  show of_call d_X11_sail [.inl 0, .inl 1] w _ _ 200
  have q := z_ok z_s5 hk hj
  unfold z_s5F at q
  have q1 := (bt q).1
  have q2 := bt (bt q).2
  have qv := of_decide_eq_true q2.2
  have h := (of_sail (w := w) (a := 0) (b := 1)).1 (by rw [hw]; exact c_oo_ok q2.1)
  have e1 : sp_ov 4 w.1.1 0 1 = (k : Int) + 2 := by rw [hw, c_ov_eq q1, qv]
  have e2 : sp_og 4 w.1.1 0 1 0 0 = zt (z5l k j) := by
    rw [hw]
    have b := z_ok z_b4b hk hj
    unfold z_b4bF at b
    have b := of_decide_eq_true b
    show sp_gSail (zt (z4l k j)) 0 1 (sp_btwF (zt (z4l k j)) (zt (z4l k j) 56) 1) = _
    rw [c_btw_eq, b.1]
    exact z_e5
  rw [e1, e2] at h
  exact h
theorem y_c7 (hk : k < 4) (hj : j < 16) (hw : w.1.1 = zt (z6l k j)) : of_call d_X11_sail ([(0 : Int32), 0].map (fun v => (.inl v.toInt : nw_V))) w (of_v (.inr (2 * (k : Int) + 3))) (of_ok w (zt (z7l k j))) 200 := by
  show of_call d_X11_sail [.inl 0, .inl 0] w _ _ 200
  have q := z_ok z_s7 hk hj
  unfold z_s7F at q
  have q1 := (bt q).1
  have q2 := bt (bt q).2
  have qv := of_decide_eq_true q2.2
  have h := (of_sail (w := w) (a := 0) (b := 0)).1 (by rw [hw]; exact c_oo_ok q2.1)
  have e1 : sp_ov 4 w.1.1 0 0 = 2 * (k : Int) + 3 := by rw [hw, c_ov_eq q1, qv]
  have e2 : sp_og 4 w.1.1 0 0 0 0 = zt (z7l k j) := by
    rw [hw]
    have b := z_ok z_b4b hk hj
    unfold z_b4bF at b
    have b := of_decide_eq_true b
    show sp_gSail (zt (z6l k j)) 0 0 (sp_btwF (zt (z6l k j)) (zt (z6l k j) 56) 0) = _
    rw [c_btw_eq, b.2.1]
    exact z_e7
  rw [e1, e2] at h
  exact h
theorem y_c8 (hk : k < 4) (hj : j < 16) (hw : w.1.1 = zt (z6l k j)) : of_call d_X11_land ([(1 : Int32)].map (fun v => (.inl v.toInt : nw_V))) w (of_v (.inr (0))) (of_ok w (zt (z8l k j))) 200 := by
  show of_call d_X11_land [.inl 1] w _ _ 200
  have q := z_ok z_s8 hk hj
  unfold z_s8F at q
  have q1 := (bt q).1
  have q2 := bt (bt q).2
  have qv := of_decide_eq_true q2.2
  have h := (of_land (w := w) (a := 1)).1 (by rw [hw]; exact c_oo_ok q2.1)
  have e1 : sp_ov 6 w.1.1 1 0 = 0 := by rw [hw, c_ov_eq q1, qv]
  have e2 : sp_og 6 w.1.1 1 0 0 0 = zt (z8l k j) := by
    rw [hw]
    have b := z_ok z_b4b hk hj
    unfold z_b4bF at b
    have b := of_decide_eq_true b
    show sp_gLand (zt (z6l k j)) (sp_plcF (zt (z6l k j)) 1) = _
    rw [c_plc_eq, b.2.2.2.1]
    exact z_e8
  rw [e1, e2] at h
  exact h
theorem y_c9 (hk : k < 4) (hj : j < 16) (hw : w.1.1 = zt (z8l k j)) : of_call d_X11_sail ([(0 : Int32), 2].map (fun v => (.inl v.toInt : nw_V))) w (of_v (.inr ((k : Int) + 5))) (of_ok w (zt (z9l k j))) 200 := by
  show of_call d_X11_sail [.inl 0, .inl 2] w _ _ 200
  have q := z_ok z_s9 hk hj
  unfold z_s9F at q
  have q1 := (bt q).1
  have q2 := bt (bt q).2
  have qv := of_decide_eq_true q2.2
  have h := (of_sail (w := w) (a := 0) (b := 2)).1 (by rw [hw]; exact c_oo_ok q2.1)
  have e1 : sp_ov 4 w.1.1 0 2 = (k : Int) + 5 := by rw [hw, c_ov_eq q1, qv]
  have e2 : sp_og 4 w.1.1 0 2 0 0 = zt (z9l k j) := by
    rw [hw]
    have b := z_ok z_b4b hk hj
    unfold z_b4bF at b
    have b := of_decide_eq_true b
    show sp_gSail (zt (z8l k j)) 0 2 (sp_btwF (zt (z8l k j)) (zt (z8l k j) 56) 2) = _
    rw [c_btw_eq, b.2.2.1]
    exact z_e9
  rw [e1, e2] at h
  exact h
theorem y_c11 (hk : k < 4) (hj : j < 16) (hw : w.1.1 = zt (z10l k j)) : of_call d_X11_land ([(0 : Int32)].map (fun v => (.inl v.toInt : nw_V))) w (of_v (.inr (5 * ((k : Int) + 4)))) (of_ok w (zt (z11l k j))) 200 := by
  show of_call d_X11_land [.inl 0] w _ _ 200
  have q := z_ok z_s11 hk hj
  unfold z_s11F at q
  have q1 := (bt q).1
  have q2 := bt (bt q).2
  have qv := of_decide_eq_true q2.2
  have h := (of_land (w := w) (a := 0)).1 (by rw [hw]; exact c_oo_ok q2.1)
  have e1 : sp_ov 6 w.1.1 0 0 = 5 * ((k : Int) + 4) := by rw [hw, c_ov_eq q1, qv]
  have e2 : sp_og 6 w.1.1 0 0 0 0 = zt (z11l k j) := by
    rw [hw]
    have b := z_ok z_b4b hk hj
    unfold z_b4bF at b
    have b := of_decide_eq_true b
    have f := z_ok z_q10 hk hj
    unfold z_q10F at f
    have f := of_decide_eq_true f
    show sp_gLand (zt (z10l k j)) (sp_plcF (zt (z10l k j)) 0) = _
    rw [c_plc_eq, b.2.2.2.2]
    exact z_e11 (by rw [c_fare_eq, f]; omega)
  rw [e1, e2] at h
  exact h
theorem y_c12 (hk : k < 4) (hj : j < 16) (hw : w.1.1 = zt (z11l k j)) : of_call d_X11_addFerry ([(1 : Int32), 12, 50].map (fun v => (.inl v.toInt : nw_V))) w (of_v (.inr (1))) (of_ok w (zt (z12l k j))) 200 := by
  show of_call d_X11_addFerry [.inl 1, .inl 12, .inl 50] w _ _ 200
  have q := z_ok z_s12 hk hj
  unfold z_s12F at q
  have q1 := (bt q).1
  have q2 := bt (bt q).2
  have q3 := bt q2.2
  have qv := of_decide_eq_true q3.2
  have h := (of_addFerry (w := w) (a := 1) (b := 12) (c := 50)).1 (by rw [hw]; exact c_oo_ok q2.1)
  have e1 : sp_ov 2 w.1.1 1 12 = 1 := by rw [hw, c_ov_eq q1, qv]
  rw [e1] at h
  refine of_call.ew h ?_
  show sp_ew (sp_og 2 w.1.1 1 12 50 0) _
  rw [hw, c_og_eq q1]
  exact z_eq_ok q3.1
theorem y_c13 (hk : k < 4) (hj : j < 16) (hw : w.1.1 = zt (z12l k j)) : of_call d_X11_rescue ([(1 : Int32)].map (fun v => (.inl v.toInt : nw_V))) w (of_v (.inr (0))) (of_ok w (zt (z13l k j))) 200 := by
  show of_call d_X11_rescue [.inl 1] w _ _ 200
  have q := z_ok z_s13 hk hj
  unfold z_s13F at q
  have q1 := (bt q).1
  have q2 := bt (bt q).2
  have q3 := bt q2.2
  have qv := of_decide_eq_true q3.2
  have h := (of_rescue (w := w) (a := 1)).1 (by rw [hw]; exact c_oo_ok q2.1)
  have e1 : sp_ov 8 w.1.1 1 0 = 0 := by rw [hw, c_ov_eq q1, qv]
  rw [e1] at h
  refine of_call.ew h ?_
  show sp_ew (sp_og 8 w.1.1 1 0 0 0) _
  rw [hw, c_og_eq q1]
  exact z_eq_ok q3.1
theorem y_c7a (hk : k < 4) (hj : j < 16) (hw : w.1.1 = zt (z6l k j)) : la sc d_L_act [2, 0, 0, 0] w (Int32.ofInt (2 * (k : Int) + 3)) (of_ok w (zt (z7l k j))) 200 22 4 24 := a_act2 0 0 0 (r := .inr (2 * (k : Int) + 3)) (y_c7 hk hj hw) (fun e he => by cases he)
theorem y_bl5 (hk : k < 4) (hj : j < 16) (hw : w.1.1 = zt (z5l k j)) : of_call d_X11_bestLoad [.inl (0 : Int32).toInt] w (of_v (.inl 2)) w 0 := by
  show of_call d_X11_bestLoad [.inl 0] w _ w 0
  have q := z_ok z_q5 hk hj
  unfold z_q5F at q
  have q := of_decide_eq_true q
  refine q_bestLoad (fun k9 v9 h => qx (k := 3) (v := 0) rfl (q_bestLoad_u (k := 3) (v := 0) ?_ h))
  unfold q_bestLoad_s
  rw [hw, q.1]
  exact Or.inr (Or.inl ⟨rfl, by decide, by show 0 < zt (z5l k j) 62; rw [q.2]; omega⟩)
theorem y_bl5a (hk : k < 4) (hj : j < 16) (hw : w.1.1 = zt (z5l k j)) : la sc d_L_act [15, 0, 0, 0] w (-3) w 0 22 4 24 := la_v (a_act15 0 0 0 (y_bl5 hk hj hw) (fun e he => by cases he; decide)) (by decide)
theorem y_isF (hk : k < 4) (hj : j < 16) (hw : w.1.1 = zt (z5l k j)) : sp_isF w.1.1 (0 : Int32).toInt := by
  show sp_isF w.1.1 0
  have q := z_ok z_q5 hk hj
  unfold z_q5F at q
  have q := of_decide_eq_true q
  unfold sp_isF
  rw [hw, q.1]
  decide
theorem y_ln (hk : k < 4) (hj : j < 16) (hw : w.1.1 = zt (z5l k j)) {l : Int → Int} : (sp_line w.1.1 (0 : Int32).toInt l).1 = ((w_l4 k).length : Int) ∧ ∀ i : Nat, i < (w_l4 k).length → (sp_line w.1.1 (0 : Int32).toInt l).2 (i : Int) = (w_l4 k).getD i 0 := by
  have q := z_ok z_ln hk hj
  unfold z_lnF at q
  rw [hw]
  exact c_lineIs_ok q
theorem y_co (hk : k < 4) (hj : j < 16) (hw : w.1.1 = zt (z6l k j)) : of_call d_X11_craterOf ([(0 : Int32)].map (fun v => (.inl v.toInt : nw_V))) w (of_v (.inr (1))) w 0 := by
  show of_call d_X11_craterOf [.inl 0] w _ w 0
  have q := z_ok z_q6 hk hj
  unfold z_q6F at q
  have q := of_decide_eq_true q
  refine q_craterOf (fun k9 v9 h => qo (q_craterOf_u (k := 0) (v := 1) ?_ h))
  unfold q_craterOf_s
  rw [hw]
  rw [q.1]
  exact Or.inr (Or.inr ⟨rfl, by decide, Int.le_of_eq q.2.1, q.2.2.1.symm⟩)
theorem y_pc (hk : k < 4) (hj : j < 16) (hw : w.1.1 = zt (z6l k j)) : of_call d_X11_passageCrater ([(0 : Int32)].map (fun v => (.inl v.toInt : nw_V))) w (of_v (.inr (1))) w 0 := by
  show of_call d_X11_passageCrater [.inl 0] w _ w 0
  have q := z_ok z_q6 hk hj
  unfold z_q6F at q
  have q := of_decide_eq_true q
  refine q_passageCrater (fun k9 v9 h => qo (q_passageCrater_u (k := 0) (v := 1) ?_ h))
  unfold q_passageCrater_s
  rw [hw]
  rw [q.2.2.2.1]
  exact Or.inr ⟨rfl, by decide, q.2.2.2.2.1.symm⟩
theorem y_ph (hk : k < 4) (hj : j < 16) (hw : w.1.1 = zt (z6l k j)) : of_call d_X11_passageHour ([(0 : Int32)].map (fun v => (.inl v.toInt : nw_V))) w (of_v (.inr ((k : Int) + 2))) w 0 := by
  show of_call d_X11_passageHour [.inl 0] w _ w 0
  have q := z_ok z_q6 hk hj
  unfold z_q6F at q
  have q := of_decide_eq_true q
  refine q_passageHour (fun k9 v9 h => qo (q_passageHour_u (k := 0) (v := (k : Int) + 2) ?_ h))
  unfold q_passageHour_s
  rw [hw]
  rw [q.2.2.2.1]
  exact Or.inr ⟨rfl, by decide, q.2.2.2.2.2.1.symm⟩
theorem y_pf (hk : k < 4) (hj : j < 16) (hw : w.1.1 = zt (z6l k j)) : of_call d_X11_passageFerry ([(0 : Int32)].map (fun v => (.inl v.toInt : nw_V))) w (of_v (.inr (0))) w 0 := by
  show of_call d_X11_passageFerry [.inl 0] w _ w 0
  have q := z_ok z_q6 hk hj
  unfold z_q6F at q
  have q := of_decide_eq_true q
  refine q_passageFerry (fun k9 v9 h => qo (q_passageFerry_u (k := 0) (v := 0) ?_ h))
  unfold q_passageFerry_s
  rw [hw]
  rw [q.2.2.2.1]
  exact Or.inr ⟨rfl, by decide, q.2.2.2.2.2.2.1.symm⟩
theorem y_s6 (hk : k < 4) (hj : j < 16) (hw : w.1.1 = zt (z6l k j)) : of_call d_X11_isStranded ([(0 : Int32)].map (fun v => (.inl v.toInt : nw_V))) w (of_v (.inr (0))) w 0 := by
  show of_call d_X11_isStranded [.inl 0] w _ w 0
  have q := z_ok z_q6 hk hj
  unfold z_q6F at q
  have q := of_decide_eq_true q
  refine q_isStranded (fun k9 v9 h => qo (q_isStranded_u (k := 0) (v := 0) ?_ h))
  unfold q_isStranded_s
  rw [hw]
  rw [c_sS_eq, q.1, q.2.2.2.2.2.2.2]
  exact Or.inr ⟨rfl, by decide, rfl⟩
theorem y_sh (hk : k < 4) (hj : j < 16) (hw : w.1.1 = zt (z8l k j)) : of_call d_X11_shoreOf ([(1 : Int32)].map (fun v => (.inl v.toInt : nw_V))) w (of_v (.inr (1))) w 0 := by
  show of_call d_X11_shoreOf [.inl 1] w _ w 0
  have q := z_ok z_q8 hk hj
  unfold z_q8F at q
  have q := of_decide_eq_true q
  refine q_shoreOf (fun k9 v9 h => qo (q_shoreOf_u (k := 0) (v := 1) ?_ h))
  unfold q_shoreOf_s
  rw [hw]
  rw [c_plc_eq, q.1]
  exact Or.inr (Or.inr ⟨rfl, by decide, by show zt (z8l k j) 122 < 10; rw [q.2.1]; decide, q.2.1.symm⟩)
theorem y_f8 (hk : k < 4) (hj : j < 16) (hw : w.1.1 = zt (z8l k j)) : of_call d_X11_fareOf ([(1 : Int32)].map (fun v => (.inl v.toInt : nw_V))) w (of_v (.inr (3 * ((k : Int) + 4)))) w 0 := by
  show of_call d_X11_fareOf [.inl 1] w _ w 0
  have q := z_ok z_q8 hk hj
  unfold z_q8F at q
  have q := of_decide_eq_true q
  refine q_fareOf (fun k9 v9 h => qo (q_fareOf_u (k := 0) (v := 3 * ((k : Int) + 4)) ?_ h))
  unfold q_fareOf_s
  rw [hw]
  rw [c_plc_eq, q.1, c_fare_eq, q.2.2]
  exact Or.inr ⟨rfl, by decide, rfl⟩
theorem y_coins (hk : k < 4) (hj : j < 16) (hw : w.1.1 = zt (z11l k j)) : of_call d_X11_coins [] w (.inr (some (.inr (.inr (.inl (5 * ((k : Int) + 4))))))) w 0 := by
  have q := z_ok z_q11 hk hj
  unfold z_q11F at q
  have q := of_decide_eq_true q
  have h := o_coins (w := w)
  rw [hw, q.1, q.2.1, Int.mul_zero, Int.sub_zero] at h
  exact h
theorem y_ft (hk : k < 4) (hj : j < 16) (hw : w.1.1 = zt (z11l k j)) : of_call d_X11_fareTotal [] w (of_v (.inr (5 * ((k : Int) + 4)))) w 0 := by
  show of_call d_X11_fareTotal [] w _ w 0
  have q := z_ok z_q11 hk hj
  unfold z_q11F at q
  have q := of_decide_eq_true q
  refine q_fareTotal (fun k9 v9 h => qo (q_fareTotal_u (k := 0) (v := 5 * ((k : Int) + 4)) ?_ h))
  unfold q_fareTotal_s
  rw [hw]
  exact ⟨rfl, q.1.symm⟩
theorem y_mc11 (hk : k < 4) (hj : j < 16) (hw : w.1.1 = zt (z11l k j)) : of_call d_X11_moonCount [] w (of_v (.inr (2))) w 0 := by
  show of_call d_X11_moonCount [] w _ w 0
  have q := z_ok z_q11 hk hj
  unfold z_q11F at q
  have q := of_decide_eq_true q
  refine q_moonCount (fun k9 v9 h => qo (q_moonCount_u (k := 0) (v := 2) ?_ h))
  unfold q_moonCount_s
  rw [hw]
  exact ⟨rfl, q.2.2.1.symm⟩
theorem y_mp (hk : k < 4) (hj : j < 16) (hw : w.1.1 = zt (z11l k j)) : of_call d_X11_meanPhase [] w (.inr (some (.inr (.inr (.inr (.inl (sp_mq 3 2))))))) w 0 := by
  have q := z_ok z_q11 hk hj
  unfold z_q11F at q
  have q := of_decide_eq_true q
  have h := o_meanPhase (w := w) (by rw [hw, q.2.2.1]; decide) (by rw [hw, q.2.2.1, q.2.2.2]; unfold vf_n64; decide +kernel)
  rw [hw, q.2.2.1, q.2.2.2] at h
  exact h
theorem y_cmp : (Op.cmpValue (FP.dcmp (sp_mq 3 2) 4609434218613702656) .l) = 0 := by decide +kernel
theorem y_lc (hk : k < 4) : lg_cmp (Int64.ofInt (5 * ((k : Int) + 4))) (((5 : Int32).toInt64) * ((Int32.ofInt ((k : Int) + 1) + 3).toInt64)) = 0 := (by decide +kernel : ∀ k : Nat, k < 4 → lg_cmp (Int64.ofInt (5 * ((k : Int) + 4))) (((5 : Int32).toInt64) * ((Int32.ofInt ((k : Int) + 1) + 3).toInt64)) = 0) k hk
theorem y_s12 (hk : k < 4) (hj : j < 16) (hw : w.1.1 = zt (z12l k j)) : of_call d_X11_isStranded ([(1 : Int32)].map (fun v => (.inl v.toInt : nw_V))) w (of_v (.inr (1))) w 0 := by
  show of_call d_X11_isStranded [.inl 1] w _ w 0
  have q := z_ok z_q12 hk hj
  unfold z_q12F at q
  have q := of_decide_eq_true q
  refine q_isStranded (fun k9 v9 h => qo (q_isStranded_u (k := 0) (v := 1) ?_ h))
  unfold q_isStranded_s
  rw [hw]
  rw [c_sS_eq, q.1, q.2]
  exact Or.inr ⟨rfl, by decide, rfl⟩
theorem y_ph1 (hk : k < 4) (hj : j < 16) (hw : w.1.1 = zt (z14l k j)) : of_call d_X11_phaseOf ([(1 : Int32)].map (fun v => (.inl v.toInt : nw_V))) w (of_v (.inr (3))) w 0 := by
  show of_call d_X11_phaseOf [.inl 1] w _ w 0
  have q := z_ok z_q14 hk hj
  unfold z_q14F at q
  have q := of_decide_eq_true q
  refine q_phaseOf (fun k9 v9 h => qo (q_phaseOf_u (k := 0) (v := 3) ?_ h))
  unfold q_phaseOf_s
  rw [hw]
  rw [c_plc_eq, q.1]
  exact Or.inr ⟨rfl, by decide, q.2.2.1.symm⟩
theorem y_ph2 (hk : k < 4) (hj : j < 16) (hw : w.1.1 = zt (z14l k j)) : of_call d_X11_phaseOf ([(2 : Int32)].map (fun v => (.inl v.toInt : nw_V))) w (of_v (.inr (2))) w 0 := by
  show of_call d_X11_phaseOf [.inl 2] w _ w 0
  have q := z_ok z_q14 hk hj
  unfold z_q14F at q
  have q := of_decide_eq_true q
  refine q_phaseOf (fun k9 v9 h => qo (q_phaseOf_u (k := 0) (v := 2) ?_ h))
  unfold q_phaseOf_s
  rw [hw]
  rw [c_plc_eq, q.2.1]
  exact Or.inr ⟨rfl, by decide, q.2.2.2.1.symm⟩
theorem y_sc (hk : k < 4) (hj : j < 16) (hw : w.1.1 = zt (z14l k j)) : of_call d_X11_strandingCount [] w (of_v (.inr (0))) w 0 := by
  show of_call d_X11_strandingCount [] w _ w 0
  have q := z_ok z_q14 hk hj
  unfold z_q14F at q
  have q := of_decide_eq_true q
  refine q_strandingCount (fun k9 v9 h => qo (q_strandingCount_u (k := 0) (v := 0) ?_ h))
  unfold q_strandingCount_s
  rw [hw]
  exact ⟨rfl, q.2.2.2.2.1.symm⟩
theorem y_pc14 (hk : k < 4) (hj : j < 16) (hw : w.1.1 = zt (z14l k j)) : of_call d_X11_passageCount [] w (of_v (.inr (2))) w 0 := by
  show of_call d_X11_passageCount [] w _ w 0
  have q := z_ok z_q14 hk hj
  unfold z_q14F at q
  have q := of_decide_eq_true q
  refine q_passageCount (fun k9 v9 h => qo (q_passageCount_u (k := 0) (v := 2) ?_ h))
  unfold q_passageCount_s
  rw [hw]
  exact ⟨rfl, q.2.2.2.2.2.symm⟩
theorem y_undo {g' : Int → Int} (hn : 0 ≤ w.1.2.1 ∧ w.1.2.1 ≤ 8) : of_call d_X11_undo [] (of_ok w g') (of_v (.inr (un w.1.2.1 - 1))) ((w.1.1, un w.1.2.1 - 1, sp_psh w.1.2.1 w.1.2.2.1 w.1.1, w.1.2.2.2), w.2) 0 := by
  have h := o_undo (w := of_ok w g') (un_rng hn).2.2
  have e : sp_psh w.1.2.1 w.1.2.2.1 w.1.1 (un w.1.2.1 - 1).toNat = w.1.1 := u_1 hn
  have h' : of_call d_X11_undo [] (of_ok w g') (of_v (.inr (un w.1.2.1 - 1))) ((sp_psh w.1.2.1 w.1.2.2.1 w.1.1 (un w.1.2.1 - 1).toNat, un w.1.2.1 - 1, sp_psh w.1.2.1 w.1.2.2.1 w.1.1, w.1.2.2.2), w.2) 0 := h
  rw [e] at h'
  exact h'
theorem e_n3 (hk : k < 4) : Int32.ofInt ((k : Int) + 4) = (Int32.ofInt ((k : Int) + 1) + 3) := (by decide +kernel : ∀ k : Nat, k < 4 → Int32.ofInt ((k : Int) + 4) = (Int32.ofInt ((k : Int) + 1) + 3)) k hk
theorem e_5n3 (hk : k < 4) : Int32.ofInt (5 * ((k : Int) + 4)) = (5 * (Int32.ofInt ((k : Int) + 1) + 3)) := (by decide +kernel : ∀ k : Nat, k < 4 → Int32.ofInt (5 * ((k : Int) + 4)) = (5 * (Int32.ofInt ((k : Int) + 1) + 3))) k hk
theorem e_3n3 (hk : k < 4) : Int32.ofInt (3 * ((k : Int) + 4)) = (3 * (Int32.ofInt ((k : Int) + 1) + 3)) := (by decide +kernel : ∀ k : Nat, k < 4 → Int32.ofInt (3 * ((k : Int) + 4)) = (3 * (Int32.ofInt ((k : Int) + 1) + 3))) k hk
theorem e_8n3 (hk : k < 4) : Int32.ofInt (8 * ((k : Int) + 4)) = (8 * (Int32.ofInt ((k : Int) + 1) + 3)) := (by decide +kernel : ∀ k : Nat, k < 4 → Int32.ofInt (8 * ((k : Int) + 4)) = (8 * (Int32.ofInt ((k : Int) + 1) + 3))) k hk
theorem e_2n (hk : k < 4) : Int32.ofInt (2 * ((k : Int) + 1)) = (2 * Int32.ofInt ((k : Int) + 1)) := (by decide +kernel : ∀ k : Nat, k < 4 → Int32.ofInt (2 * ((k : Int) + 1)) = (2 * Int32.ofInt ((k : Int) + 1))) k hk
theorem e_1n (hk : k < 4) : Int32.ofInt ((k : Int) + 2) = (1 + Int32.ofInt ((k : Int) + 1)) := (by decide +kernel : ∀ k : Nat, k < 4 → Int32.ofInt ((k : Int) + 2) = (1 + Int32.ofInt ((k : Int) + 1))) k hk
theorem e_12n (hk : k < 4) : Int32.ofInt (2 * (k : Int) + 3) = (1 + (2 * Int32.ofInt ((k : Int) + 1))) := (by decide +kernel : ∀ k : Nat, k < 4 → Int32.ofInt (2 * (k : Int) + 3) = (1 + (2 * Int32.ofInt ((k : Int) + 1)))) k hk
theorem e_n4 (hk : k < 4) : Int32.ofInt ((k : Int) + 5) = (Int32.ofInt ((k : Int) + 1) + 4) := (by decide +kernel : ∀ k : Nat, k < 4 → Int32.ofInt ((k : Int) + 5) = (Int32.ofInt ((k : Int) + 1) + 4)) k hk
theorem e_n0 (hk : k < 4) : ¬ Int32.ofInt ((k : Int) + 1) = 0 := (by decide +kernel : ∀ k : Nat, k < 4 → ¬ Int32.ofInt ((k : Int) + 1) = 0) k hk
theorem e_w24 (hj : j < 16) : Int32.ofInt ((j : Int) + 25) = (Int32.ofInt ((j : Int) + 1) + 24) := (by decide +kernel : ∀ j : Nat, j < 16 → Int32.ofInt ((j : Int) + 25) = (Int32.ofInt ((j : Int) + 1) + 24)) j hj
theorem e_w54 (hj : j < 16) : ¬ (Int32.ofInt ((j : Int) + 1) + 54) ≤ 40 := (by decide +kernel : ∀ j : Nat, j < 16 → ¬ (Int32.ofInt ((j : Int) + 1) + 54) ≤ 40) j hj
theorem nn {P : Prop} (h : P) : ¬ (¬ P) := fun z => z h
end
