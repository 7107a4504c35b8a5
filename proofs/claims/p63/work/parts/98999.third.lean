/-! the law walked: the third office, all of it -/
theorem l1_ok {k : Nat} (hk : k < 4) : (w_l1 k).length ≤ 60 ∧ ∀ i, i < (w_l1 k).length → 32 ≤ (w_l1 k).getD i 0 ∧ (w_l1 k).getD i 0 ≤ 126 := (by decide +kernel : ∀ k : Nat, k < 4 → (w_l1 k).length ≤ 60 ∧ ∀ i, i < (w_l1 k).length → 32 ≤ (w_l1 k).getD i 0 ∧ (w_l1 k).getD i 0 ≤ 126) k hk
theorem l2_ok {j : Nat} (hj : j < 16) : (w_l2 j).length ≤ 60 ∧ ∀ i, i < (w_l2 j).length → 32 ≤ (w_l2 j).getD i 0 ∧ (w_l2 j).getD i 0 ≤ 126 := (by decide +kernel : ∀ j : Nat, j < 16 → (w_l2 j).length ≤ 60 ∧ ∀ i, i < (w_l2 j).length → 32 ≤ (w_l2 j).getD i 0 ∧ (w_l2 j).getD i 0 ≤ 126) j hj
theorem l3_ok {j : Nat} (hj : j < 16) : (w_l3 j).length ≤ 60 ∧ ∀ i, i < (w_l3 j).length → 32 ≤ (w_l3 j).getD i 0 ∧ (w_l3 j).getD i 0 ≤ 126 := (by decide +kernel : ∀ j : Nat, j < 16 → (w_l3 j).length ≤ 60 ∧ ∀ i, i < (w_l3 j).length → 32 ≤ (w_l3 j).getD i 0 ∧ (w_l3 j).getD i 0 ≤ 126) j hj
theorem or0 {n : Nat} {b : Bool} (h : (n + 1 == 0 || b) = true) : b = true := by
  rcases (Bool.or_eq_true _ _).mp h with h | h
  · exact absurd (beq_iff_eq.mp h) (by omega)
  · exact h
theorem i32n {n : Nat} : Int32.ofNat (n + 1) = Int32.ofInt ((n : Int) + 1) := rfl
theorem ca_1 {k : Nat} (h : k < 4) : ky_all 1000024 (Int32.ofInt ((k : Int) + 1)) 1000025 (w_l1 k) := by
  have a := List.all_eq_true.mp cat_1 (k + 1) (List.mem_range.mpr (by omega))
  have b := ky_cat_ok (or0 a)
  rw [i32n] at b
  exact b
theorem ck_1 {k : Nat} (h : k < 4) : ky_kds 1000024 (Int32.ofInt ((k : Int) + 1)) 1000025 = true := by
  have a := List.all_eq_true.mp kd_1 (k + 1) (List.mem_range.mpr (by omega))
  have b := or0 a
  rw [i32n] at b
  exact b
theorem ca_2 {j : Nat} (h : j < 16) : ky_all 1000026 (Int32.ofInt ((j : Int) + 1)) 1000027 (w_l2 j) := by
  have a := List.all_eq_true.mp cat_2 (j + 1) (List.mem_range.mpr (by omega))
  have b := ky_cat_ok (or0 a)
  rw [i32n] at b
  exact b
theorem ck_2 {j : Nat} (h : j < 16) : ky_kds 1000026 (Int32.ofInt ((j : Int) + 1)) 1000027 = true := by
  have a := List.all_eq_true.mp kd_2 (j + 1) (List.mem_range.mpr (by omega))
  have b := or0 a
  rw [i32n] at b
  exact b
theorem ca_3 {j : Nat} (h : j < 16) : ky_all 1000026 (Int32.ofInt ((j : Int) + 1)) 1000028 (w_l3 j) := by
  have a := List.all_eq_true.mp cat_3 (j + 1) (List.mem_range.mpr (by omega))
  have b := ky_cat_ok (or0 a)
  rw [i32n] at b
  exact b
theorem ck_3 {j : Nat} (h : j < 16) : ky_kds 1000026 (Int32.ofInt ((j : Int) + 1)) 1000028 = true := by
  have a := List.all_eq_true.mp kd_3 (j + 1) (List.mem_range.mpr (by omega))
  have b := or0 a
  rw [i32n] at b
  exact b
theorem ca_4 {k : Nat} (h : k < 4) : ky_all 1000029 (Int32.ofInt ((k : Int) + 1)) 1000030 (w_l4 k) := by
  have a := List.all_eq_true.mp cat_4 (k + 1) (List.mem_range.mpr (by omega))
  have b := ky_cat_ok (or0 a)
  rw [i32n] at b
  exact b
theorem ck_4 {k : Nat} (h : k < 4) : ky_kds 1000029 (Int32.ofInt ((k : Int) + 1)) 1000030 = true := by
  have a := List.all_eq_true.mp kd_4 (k + 1) (List.mem_range.mpr (by omega))
  have b := or0 a
  rw [i32n] at b
  exact b
theorem z0_ew {g : Int → Int} {k j : Nat} (h : ∀ s, g s = 0) : sp_ew g (zt (z0l k j)) := by
  have e : g = fun _ => 0 := funext h
  rw [e]
  exact z_eq_ok (l := z0l 0 0) (by decide +kernel)
section
variable {sc : Nat × (Nat → Int32)} {M : mw_Mem} {Qr : Option Value → mw_Mem → Prop} {Qx : Nat → mw_Mem → Prop} {w : of_S}
theorem w_z {k j : Nat} {b1 b2 b : Nat} {v x3 c5 : Int32} {B : Int} (hk : k < 4) (hj : j < 16) (O1 : Off b1 302 M w B) (hB : B ≤ 3900000) (O3 : Off b 302 M of_0 0) (hd : b1 + 303 ≤ b) (hkn : ∀ x, 1000000 ≤ x → M.2.2.2.2.1 x = none) (hv : SV sc w.1.2.2.2.2 v) (h1 : ¬ w.1.2.2.2.1 = 0) (hx : Int32.ofInt (w.1.2.2.2.2 4) = x3) (K : ∀ M' : mw_Mem, (∀ x, 1000000 ≤ x → M'.2.2.2.2.1 x = none) → Qr (some (.int 1)) M') : mw_Wp sc mw_Good d_L_law 400 (352, [some (.ref 1000000), some (.ref b1), some (.ref b2), some (.int x3), some (.int v), some (.int c5), some (.int (Int32.ofInt ((j : Int) + 1))), some (.int (Int32.ofInt ((k : Int) + 1))), some (.ref b)], [], M, 17921, 116608) Qr Qx := by
  refine w_7 O1 O3 hd hkn (fun M1 O3 O1 hkn => ?_)
  have O3 := O3.ew (g' := zt (z0l k j)) (z0_ew (fun _ => rfl))
  obtain ⟨s0, O3, e0, t0⟩ : ∃ s : of_S, Off b 302 M1 s 1000 ∧ s.1.1 = zt (z0l k j) ∧ s.2.2.1.1 = 0 := ⟨_, O3, rfl, rfl⟩
  refine w_8 (l := w_l1 k) O1 O3 (by decide) t0 (l1_ok hk) hd hkn (ca_1 hk) (ck_1 hk) (fun M2 O3 O1 hkn => ?_)
  have te := tx_eq (l := w_l1 k) (q := s0.2.2.1) (f := fun i => (w_l1 k).getD i 0) t0 (fun i hi => rfl)
  refine w_9 O1 O3 hd hkn (f_run1 hk hj e0 te.1 te.2) (nn (by decide)) (y_n1 hk hj rfl) (nn (e_n3 hk)) (y_n2 hk hj rfl) (nn (e_n3 hk)) (y_w1 hk hj rfl) (nn (e_n3 hk)) (y_w2 hk hj rfl) (nn (e_n3 hk)) (y_w3a hk hj rfl) (fun M3 O3 O1 hkn => ?_)
  obtain ⟨s1, O3, e1, t1⟩ : ∃ s : of_S, Off b 302 M3 s 3500 ∧ s.1.1 = zt (z1l k j) ∧ s.2.2.1.1 = 0 := ⟨_, O3, rfl, rfl⟩
  clear te
  refine w_10 (l := w_l2 j) O1 O3 hd hkn t1 (l2_ok hj) (ca_2 hj) (ck_2 hj) (fun M4 O3 O1 hkn => ?_)
  have te := tx_eq (l := w_l2 j) (q := s1.2.2.1) (f := fun i => (w_l2 j).getD i 0) t1 (fun i hi => rfl)
  refine w_11 O1 O3 hd hkn (f_run2 hk hj e1 te.1 te.2) (o_failedCommand (p := 3) rfl (by decide)) (nn (by decide)) (y_mc1 hk hj e1) (nn (by decide)) (y_cc1 hk hj e1) (by decide) (fun M5 O3 O1 hkn => ?_)
  obtain ⟨s2, O3, e2, t2⟩ : ∃ s : of_S, Off b 302 M5 s 6000 ∧ s.1.1 = zt (z1l k j) ∧ s.2.2.1.1 = 0 := ⟨_, O3, e1, rfl⟩
  clear te
  refine w_12 (l := w_l3 j) O1 O3 hd hkn t2 (l3_ok hj) (ca_3 hj) (ck_3 hj) (fun M6 O3 O1 hkn => ?_)
  have te := tx_eq (l := w_l3 j) (q := s2.2.2.1) (f := fun i => (w_l3 j).getD i 0) t2 (fun i hi => rfl)
  refine w_13 O1 O3 hd hkn (f_run3 hk hj e2 te.1 te.2) (nn (by decide)) (y_f0 hk hj rfl) (nn (e_5n3 hk)) (y_f1 hk hj rfl) (nn (e_3n3 hk)) (y_f2 hk hj rfl) (nn (e_2n hk)) (y_rk0 hk hj rfl) (nn (by decide)) (y_rk2 hk hj rfl) (nn (by decide)) (y_cb hk hj rfl) (nn (by decide)) (y_ca hk hj rfl) (nn (by decide)) (y_s2 hk hj rfl) (by decide) (y_bl hk hj rfl) (nn (e_8n3 hk)) (y_bt hk hj rfl) (nn (e_8n3 hk)) (fun M7 O3 O1 hkn => ?_)
  obtain ⟨s3, O3, e3⟩ : ∃ s : of_S, Off b 302 M7 s 9000 ∧ s.1.1 = zt (z2l k j) := ⟨_, O3, rfl⟩
  clear te
  refine w_14 O1 O3 hd hkn (y_a3 hk hj e3) (y_a4b hk hj e3) (y_rr (by decide) (by decide)) (nn (by decide)) (y_a5 hk hj e3) (y_rr (by decide) (by decide)) (nn (by decide)) (y_a6 hk hj e3) (y_rr (by decide) (by decide)) (by decide) (fun M8 O3 O1 hkn => ?_)
  obtain ⟨s4, O3, e4⟩ : ∃ s : of_S, Off b 302 M8 s 10000 ∧ s.1.1 = zt (z2l k j) := ⟨_, O3, e3⟩
  refine w_15 O1 O3 hd hkn (y_ea0 hk hj e4) (nn (by decide)) (y_ea1 hk hj e4) (nn (e_1n hk)) (y_eh1 hk hj e4) (nn (e_1n hk)) (y_p3 e4) (nn (by decide)) (y_s3 hk hj rfl) (nn (by decide)) (y_c4 hk hj rfl) (nn (by decide)) (y_lo hk hj rfl) (nn (e_w24 hj)) (y_a7 hk hj rfl) (e_w54 hj) (y_rr (by decide) (by decide)) (nn (by decide)) (y_a8 hk hj rfl) (y_c5 hk hj rfl) (nn (e_1n hk)) (y_a9 hk hj rfl) (y_a10 hk hj rfl) (fun M9 O3 O1 hkn => ?_)
  obtain ⟨s5, O3, e5⟩ : ∃ s : of_S, Off b 302 M9 s 12000 ∧ s.1.1 = zt (z5l k j) := ⟨_, O3, rfl⟩
  refine w_16 (l := w_l4 k) O1 O3 hd hkn (y_isF hk hj e5) (y_ln hk hj e5).1 (y_ln hk hj e5).2 rfl (ca_4 hk) (ck_4 hk) (y_bl5a hk hj e5) (fun sb M10 O3 O1 hkn => ?_)
  obtain ⟨s6, O3, e6⟩ : ∃ s : of_S, Off b sb M10 s 12000 ∧ s.1.1 = zt (z5l k j) := ⟨_, O3, e5⟩
  have hn := O3.inv.2.2
  have hm := un_rng hn
  refine w_17 O1 O3 hd hkn (y_p6 hk e6) (nn (by decide)) (y_co hk hj rfl) (nn (by decide)) (y_pc hk hj rfl) (nn (by decide)) (y_ph hk hj rfl) (nn (e_1n hk)) (y_pf hk hj rfl) (nn (by decide)) (y_c7a hk hj rfl) (e_n0 hk) (nn (e_12n hk)) (y_undo (w := of_ok s6 (zt (z6l k j))) ⟨hm.1, hm.2.1⟩) (w_nn (w_un (n := un s6.1.2.1) ⟨hm.1, hm.2.1⟩).1) (y_s6 hk hj rfl) (nn (by decide)) (y_c8 hk hj rfl) (nn (by decide)) (y_sh hk hj rfl) (nn (by decide)) (y_f8 hk hj rfl) (nn (e_3n3 hk)) (y_c9 hk hj rfl) (nn (e_n4 hk)) (y_p10 hk rfl) (nn (by decide)) (y_c11 hk hj rfl) (nn (e_5n3 hk)) (fun M11 O3 O1 hkn => ?_)
  obtain ⟨s7, O3, e7⟩ : ∃ s : of_S, Off b sb M11 s 14000 ∧ s.1.1 = zt (z11l k j) := ⟨_, O3, rfl⟩
  refine w_18 O1 O3 hd hkn (y_coins hk hj e7) (nn (y_lc hk)) (y_ft hk hj e7) (nn (e_5n3 hk)) (y_mc11 hk hj e7) (nn (by decide)) (y_mp hk hj e7) y_cmp (fun M12 O3 O1 hkn => ?_)
  refine w_19 O1 O3 hd hkn (y_c12 hk hj e7) (nn (by decide)) (y_s12 hk hj rfl) (by decide) (y_c13 hk hj rfl) (nn (by decide)) (y_a11 hk hj rfl) (y_p14 hk rfl) (nn (by decide)) (y_ph1 hk hj rfl) (nn (by decide)) (y_ph2 hk hj rfl) (nn (by decide)) (y_sc hk hj rfl) (nn (by decide)) (y_pc14 hk hj rfl) (nn (by decide)) y_con (by decide) (fun M13 O3 O1 hkn => ?_)
  exact w_20 O1 hB hkn hv (o_restore h1) rfl (nn hx) K
end
