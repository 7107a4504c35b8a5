/-! texts put together -/
theorem upu {u : Nat} (h : u ≤ 990000) : mw_upV u (.ref 0) = .ref u := by
  show Value.ref (mw_up u 0) = _
  unfold mw_up
  rw [if_pos (by decide), Nat.zero_add, if_pos (by omega)]
theorem upa {u a : Nat} (h : a + u < 1000000) : mw_upV u (.ref a) = .ref (a + u) := by
  show Value.ref (mw_up u a) = _
  unfold mw_up
  rw [if_pos (by omega), if_pos h]
/-- a text put together stays while an office before it works -/
theorem ky_StrF {u a b sb : Nat} {m : kx_M} {M M' : mw_Mem} {l : List Int} (hs : mw_sub u (kx_m m) M) (hu : u ≤ 990000) (hd : ky_dn m = true) (h : ky_txt m a l = true) (F : Fr b sb M M') (hb : b + 303 ≤ u) (hsb : b + sb < u) : Str M' (a + u) l.length (fun k => l.getD k 0) := by
  unfold ky_txt at h
  simp only [Bool.and_eq_true, decide_eq_true_eq] at h
  obtain ⟨⟨⟨⟨h1, h2⟩, h3⟩, h4⟩, h5⟩ := h
  obtain ⟨nk, hk⟩ : ∃ nk, kx_kF m.2.2.1 a = some (0, nk) := by
    split at h1
    · rename_i nk hk
      exact ⟨nk, hk⟩
    · cases h1
  have n0 : M.2.2.2.2.2 = m.2.2.2 + u := hs.1
  split at h3
  · rename_i e he
    simp only [Bool.and_eq_true, decide_eq_true_eq] at h3
    have ba := ky_dn_2 hd hk
    have be := ky_dn_2 hd h3.1
    have sa := hs.2 a _ hk
    have se := hs.2 e _ h3.1
    have x := F.2.1 (a + u) (by omega) (by omega) (by omega)
    have y := F.2.1 (e + u) (by omega) (by omega) (by omega)
    refine ⟨h4, fun k hk9 => ?_, Or.inr ⟨e + u, nk, ⟨by omega, by omega⟩, x.2.2.2.2.trans sa.1, (congrFun x.2.2.2.1 0).trans ?_, (congrFun x.1 1).trans ?_, y.2.2.2.2.trans se.1, fun k hk9 => (congrFun y.1 k).trans ?_⟩⟩
    · have hm : l[k] ∈ l := List.getElem_mem hk9
      have := of_decide_eq_true (List.all_eq_true.mp h5 _ hm)
      show 0 ≤ l.getD k 0 ∧ l.getD k 0 < 128
      rw [List.getD_eq_getElem?_getD, List.getElem?_eq_getElem hk9]
      exact this
    · rw [sa.2.2.2.2.2 0, show (kx_m m).2.2.2.1 a 0 = some e from he]
      show some (mw_up u e) = some (e + u)
      unfold mw_up
      rw [if_pos (by omega), if_pos (by omega)]
    · rw [sa.2.2.1]
      exact h2
    · rw [se.2.2.1]
      exact of_decide_eq_true (List.all_eq_true.mp h3.2 k (List.mem_range.mpr hk9))
  · cases h3
section
variable {sc : Nat × (Nat → Int32)} {M : mw_Mem} {Qr : Option Value → mw_Mem → Prop} {Qx : Nat → mw_Mem → Prop} {w wz : of_S}
theorem w_8 {b1 b2 b : Nat} {v x3 c5 c6 c7 : Int32} {B Bz : Int} {l : List Int} (O1 : Off b1 302 M w B) (O3 : Off b 302 M wz Bz) (hBz : Bz ≤ 4000000) (hw : wz.2.2.1.1 = 0) (hl : l.length ≤ 60 ∧ ∀ k, k < l.length → 32 ≤ l.getD k 0 ∧ l.getD k 0 ≤ 126) (hd : b1 + 303 ≤ b) (hkn : ∀ x, 1000000 ≤ x → M.2.2.2.2.1 x = none) (hcatA : ky_all 1000024 c7 1000025 l) (hkdA : ky_kds 1000024 c7 1000025 = true)
    (K : ∀ (M' : mw_Mem), Off b 302 M' (of_T wz (tx_put wz.2.2.1 (fun k => l.getD k 0) l.length)) Bz → Off b1 302 M' w B → (∀ x, 1000000 ≤ x → M'.2.2.2.2.1 x = none) → mw_Wp sc mw_Good d_L_law 400 (466, [some (.ref 1000000), some (.ref b1), some (.ref b2), some (.int x3), some (.int v), some (.int c5), some (.int c6), some (.int c7), some (.ref b)], [], M', 17646, 114420) Qr Qx) : mw_Wp sc mw_Good d_L_law 400 (434, [some (.ref 1000000), some (.ref b1), some (.ref b2), some (.int x3), some (.int v), some (.int c5), some (.int c6), some (.int c7), some (.ref b)], [], M, 17893, 116440) Qr Qx := by
  refine lr _ (436, [some (.ref 1000000), some (.ref b1), some (.ref b2), some (.int x3), some (.int v), some (.int c5), some (.int c6), some (.int c7), some (.ref b)], [.ref b], M, 17893, 116440) l_L_law_434 rfl ?_
  obtain ⟨uA, euA⟩ : ∃ u, u = M.2.2.2.2.2 := ⟨_, rfl⟩
  refine mw_Wp.fact (fun hMA => ?_)
  have hMA : M.2.2.2.2.2 ≤ 990000 := hMA
  obtain ⟨m1A, m2A, m3A, m4A, m5A, a5A, ⟨h1A, d1A, n1A⟩, ⟨h2A, d2A, n2A⟩, ⟨h3A, d3A, n3A⟩, ⟨h4A, d4A, n4A⟩, ⟨h5A, d5A, n5A, alA⟩, txA⟩ := hcatA
  obtain ⟨k1A, k2A, k3A, k4A⟩ := ky_kds_ok hkdA h1A h2A h3A h4A
  have s0A : mw_sub uA (kx_m ky_m0) (mw_ncell M (1, 4)) := by rw [euA]; exact ky_sub0 hMA
  rw [← euA] at hMA
  refine lr _ (439, [some (.ref 1000000), some (.ref b1), some (.ref b2), some (.int x3), some (.int v), some (.int c5), some (.int c6), some (.int c7), some (.ref b)], [.ref M.2.2.2.2.2, .ref b], (mw_ncell M (1, 4)), 17892, 116436) l_L_law_436 rfl ?_
  rw [← euA]
  refine lr _ (440, [some (.ref 1000000), some (.ref b1), some (.ref b2), some (.int x3), some (.int v), some (.int c5), some (.int c6), some (.int c7), some (.ref b)], [.ref uA, .ref uA, .ref b], (mw_ncell M (1, 4)), 17892, 116436) l_L_law_439 rfl ?_
  refine lc_ky h1A s0A hMA rfl d1A n1A l_L_law_440 rfl rfl rfl g_J4_init_da8c8 (by decide) (by decide) (by decide) ⟨_, rfl, fun z => absurd z (by decide)⟩ (by rw [List.map_cons, List.map_cons, show ky_v (.inr (some 0)) = .ref 0 from rfl, upu hMA]; rfl) rfl (fun N1A s1A f1A => ?_)
  show mw_Wp sc mw_Good d_L_law 400 (443, [some (.ref 1000000), some (.ref b1), some (.ref b2), some (.int x3), some (.int v), some (.int c5), some (.int c6), some (.int c7), some (.ref b)], [.ref uA, .ref b], N1A, 17891, 116420) Qr Qx
  refine lr _ (446, [some (.ref 1000000), some (.ref b1), some (.ref b2), some (.int x3), some (.int v), some (.int c5), some (.int c6), some (.int c7), some (.ref b)], [.ref 1000024, .ref uA, .ref b], N1A, 17891, 116420) l_L_law_443 rfl ?_
  refine lc_ky h2A s1A hMA d1A d2A n2A l_L_law_446 rfl rfl rfl g_J4_append_15ec4 (by decide) (by decide) (by decide) (Or.inl ⟨_, _, rfl, (by have q := (s1A.2 0 _ k1A).1; rw [Nat.zero_add] at q; exact q)⟩) (by rw [List.map_cons, List.map_cons, show ky_v (.inr (some 0)) = .ref 0 from rfl, upu hMA]; rfl) rfl (fun N2A s2A f2A => ?_)
  show mw_Wp sc mw_Good d_L_law 400 (449, [some (.ref 1000000), some (.ref b1), some (.ref b2), some (.int x3), some (.int v), some (.int c5), some (.int c6), some (.int c7), some (.ref b)], [mw_upV uA (.ref 0), .ref b], N2A, 17890, 116270) Qr Qx
  rw [upu hMA]
  refine lr _ (451, [some (.ref 1000000), some (.ref b1), some (.ref b2), some (.int x3), some (.int v), some (.int c5), some (.int c6), some (.int c7), some (.ref b)], [.int c7, .ref uA, .ref b], N2A, 17890, 116270) l_L_law_449 rfl ?_
  refine lc_ky h3A s2A hMA d2A d3A n3A l_L_law_451 rfl rfl rfl g_J4_append_bf812 (by decide) (by decide) (by decide) (Or.inl ⟨_, _, rfl, (by have q := (s2A.2 0 _ k2A).1; rw [Nat.zero_add] at q; exact q)⟩) (by rw [List.map_cons, List.map_cons, show ky_v (.inr (some 0)) = .ref 0 from rfl, upu hMA]; rfl) rfl (fun N3A s3A f3A => ?_)
  show mw_Wp sc mw_Good d_L_law 400 (454, [some (.ref 1000000), some (.ref b1), some (.ref b2), some (.int x3), some (.int v), some (.int c5), some (.int c6), some (.int c7), some (.ref b)], [mw_upV uA (.ref 0), .ref b], N3A, 17889, 116120) Qr Qx
  rw [upu hMA]
  refine lr _ (457, [some (.ref 1000000), some (.ref b1), some (.ref b2), some (.int x3), some (.int v), some (.int c5), some (.int c6), some (.int c7), some (.ref b)], [.ref 1000025, .ref uA, .ref b], N3A, 17889, 116120) l_L_law_454 rfl ?_
  refine lc_ky h4A s3A hMA d3A d4A n4A l_L_law_457 rfl rfl rfl g_J4_append_15ec4 (by decide) (by decide) (by decide) (Or.inl ⟨_, _, rfl, (by have q := (s3A.2 0 _ k3A).1; rw [Nat.zero_add] at q; exact q)⟩) (by rw [List.map_cons, List.map_cons, show ky_v (.inr (some 0)) = .ref 0 from rfl, upu hMA]; rfl) rfl (fun N4A s4A f4A => ?_)
  show mw_Wp sc mw_Good d_L_law 400 (460, [some (.ref 1000000), some (.ref b1), some (.ref b2), some (.int x3), some (.int v), some (.int c5), some (.int c6), some (.int c7), some (.ref b)], [mw_upV uA (.ref 0), .ref b], N4A, 17888, 115970) Qr Qx
  rw [upu hMA]
  refine lc_ky h5A s4A hMA d4A d5A n5A l_L_law_460 rfl rfl rfl g_J4_toString_0e30d (by decide) (by decide) (by decide) (Or.inl ⟨_, _, rfl, (by have q := (s4A.2 0 _ k4A).1; rw [Nat.zero_add] at q; exact q)⟩) (by rw [List.map_cons, List.map_cons, show ky_v (.inr (some 0)) = .ref 0 from rfl, upu hMA]; rfl) rfl (fun N5A s5A f5A => ?_)
  show mw_Wp sc mw_Good d_L_law 400 (463, [some (.ref 1000000), some (.ref b1), some (.ref b2), some (.int x3), some (.int v), some (.int c5), some (.int c6), some (.int c7), some (.ref b)], [mw_upV uA (.ref a5A), .ref b], N5A, 17886, 115860) Qr Qx
  refine mw_Wp.fact (fun hZA => ?_)
  have hZA : N5A.2.2.2.2.2 ≤ 990000 := hZA
  have nzA : N5A.2.2.2.2.2 = m5A.2.2.2 + uA := s5A.1
  rw [upa (a := a5A) (u := uA) (by omega)]
  have flA : LF uA M N5A := (LF.trans (by rw [euA]; exact LF.nc (Nat.le_refl _) (by rw [← euA]; omega)) f1A).trans (f2A.trans (f3A.trans (f4A.trans f5A)))
  have O3_A := O3.fr flA.1 (fun x hx => flA.2.1 x (by have := O3.kd; omega))
  have O1_A := O1.fr flA.1 (fun x hx => flA.2.1 x (by have := O1.kd; omega))
  have hnA : ∀ x, 1000000 ≤ x → N5A.2.2.2.2.1 x = none := fun x a => flA.2.2 x a (hkn x a)
  have stA := ky_Str s5A hMA d5A txA
  refine mw_Wp.cal _ d_L_put 23 240 1440 l_L_law_463 rfl rfl g_L_put (by decide) (by decide) (by decide) True.intro ?_
  refine t_put (n := l.length) (f := fun k => l.getD k 0) O3_A (by omega) (Int.le_of_eq hw.symm) (by rw [hw]; omega) hl.2 (fun M9 F9 => ky_StrF s5A hMA d5A txA F9 (by have := O3.kd; omega) (by have := O3.kd; omega)) (fun M1_ A1_ F1_ => ?_)
  show mw_Wp sc mw_Good d_L_law 400 (466, [some (.ref 1000000), some (.ref b1), some (.ref b2), some (.int x3), some (.int v), some (.int c5), some (.int c6), some (.int c7), some (.ref b)], [], M1_, 17646, 114420) Qr Qx
  have A1_k0 := O1_A.oth F1_ (Or.inl hd)
  have hn1 : ∀ x, 1000000 ≤ x → M1_.2.2.2.2.1 x = none := fun x a => F1_.2.2 x a (hnA x a)
  exact K _ A1_ A1_k0 hn1
end
