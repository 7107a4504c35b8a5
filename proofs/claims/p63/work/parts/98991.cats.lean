/-! the builder keeps its kind -/
def ky_kds (t1 : Nat) (x : Int32) (t2 : Nat) : Bool := match ky_call ky_m0 d_J4_init_da8c8 [.inr (some 0)] 1 16 with
  | some (_, m1) => decide (kx_kF m1.2.2.1 0 = some (1, 4)) && (match ky_call m1 d_J4_append_15ec4 [.inr (some 0), .inr (some t1)] 1 150 with
    | some (_, m2) => decide (kx_kF m2.2.2.1 0 = some (1, 4)) && (match ky_call m2 d_J4_append_bf812 [.inr (some 0), .inl x] 1 150 with
      | some (_, m3) => decide (kx_kF m3.2.2.1 0 = some (1, 4)) && (match ky_call m3 d_J4_append_15ec4 [.inr (some 0), .inr (some t2)] 1 150 with
        | some (_, m4) => decide (kx_kF m4.2.2.1 0 = some (1, 4))
        | _ => false)
      | _ => false)
    | _ => false)
  | _ => false
theorem ky_kds_ok {t1 t2 : Nat} {x : Int32} {m1 m2 m3 m4 : kx_M} {v1 v2 v3 v4 : Option ky_V} (h : ky_kds t1 x t2 = true) (h1 : ky_call ky_m0 d_J4_init_da8c8 [.inr (some 0)] 1 16 = some (v1, m1)) (h2 : ky_call m1 d_J4_append_15ec4 [.inr (some 0), .inr (some t1)] 1 150 = some (v2, m2)) (h3 : ky_call m2 d_J4_append_bf812 [.inr (some 0), .inl x] 1 150 = some (v3, m3)) (h4 : ky_call m3 d_J4_append_15ec4 [.inr (some 0), .inr (some t2)] 1 150 = some (v4, m4)) : kx_kF m1.2.2.1 0 = some (1, 4) ∧ kx_kF m2.2.2.1 0 = some (1, 4) ∧ kx_kF m3.2.2.1 0 = some (1, 4) ∧ kx_kF m4.2.2.1 0 = some (1, 4) := by
  unfold ky_kds at h
  simp only [h1, h2, h3, h4, Bool.and_eq_true, decide_eq_true_eq] at h
  exact h
set_option maxRecDepth 100000 in
theorem kd_1 : ((List.range 5).all fun k => k == 0 || ky_kds 1000024 (Int32.ofNat k) 1000025) = true := by decide +kernel
set_option maxRecDepth 100000 in
theorem kd_4 : ((List.range 5).all fun k => k == 0 || ky_kds 1000029 (Int32.ofNat k) 1000030) = true := by decide +kernel
set_option maxRecDepth 100000 in
theorem kd_2 : ((List.range 17).all fun k => k == 0 || ky_kds 1000026 (Int32.ofNat k) 1000027) = true := by decide +kernel
set_option maxRecDepth 100000 in
theorem kd_3 : ((List.range 17).all fun k => k == 0 || ky_kds 1000026 (Int32.ofNat k) 1000028) = true := by decide +kernel
