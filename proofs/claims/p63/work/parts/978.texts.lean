/-! the law's texts, put together -/
def ky_tb : List (mw_CD × Nat × Nat) := [(d_J4_init_da8c8, 1, 16), (d_J5_init_d00df, 1, 16), (d_J4_append_15ec4, 1, 150), (d_J5_append_cf1ce, 1, 150), (d_J5_ensureCapacityInternal_d00df, 1, 150), (d_J5_newCapacity_0f7a4, 0, 0), (d_J8_newLength_cabcc, 0, 0), (d_J7_copyOf_9075b, 1, 150), (d_J5_putStringAt_47b60, 0, 0), (d_J5_inflateIfNeededFor_a7421, 0, 0), (d_J5_getValue_6d5f1, 0, 0), (d_J0_getBytes_840e7, 0, 0), (d_J0_coder_7d493, 0, 0), (d_J0_length_8abf5, 0, 0), (d_J4_append_bf812, 1, 150), (d_J5_append_c97b9, 1, 150), (d_J6_stringSize_0f7a4, 0, 0), (d_J6_getChars_ba4f3, 0, 0), (d_J5_isLatin1_aae02, 0, 0), (d_J4_toString_0e30d, 2, 110), (d_J0_init_81219, 1, 104), (d_J0_init_db425, 1, 104), (d_J4_length_8abf5, 0, 0), (d_J5_length_8abf5, 0, 0), (d_J7_copyOfRange_39247, 1, 104), (d_J7_copyOfRangeByte_39247, 1, 104), (d_J7_checkLength_df160, 0, 0), (d_J9_min_7cf53, 0, 0), (d_J9_max_7cf53, 0, 0)]
theorem ky_tb_good : ∀ e ∈ ky_tb, mw_Good e.1 := List.forall_mem_cons.mpr ⟨g_J4_init_da8c8, List.forall_mem_cons.mpr ⟨g_J5_init_d00df, List.forall_mem_cons.mpr ⟨g_J4_append_15ec4, List.forall_mem_cons.mpr ⟨g_J5_append_cf1ce, List.forall_mem_cons.mpr ⟨g_J5_ensureCapacityInternal_d00df, List.forall_mem_cons.mpr ⟨g_J5_newCapacity_0f7a4, List.forall_mem_cons.mpr ⟨g_J8_newLength_cabcc, List.forall_mem_cons.mpr ⟨g_J7_copyOf_9075b, List.forall_mem_cons.mpr ⟨g_J5_putStringAt_47b60, List.forall_mem_cons.mpr ⟨g_J5_inflateIfNeededFor_a7421, List.forall_mem_cons.mpr ⟨g_J5_getValue_6d5f1, List.forall_mem_cons.mpr ⟨g_J0_getBytes_840e7, List.forall_mem_cons.mpr ⟨g_J0_coder_7d493, List.forall_mem_cons.mpr ⟨g_J0_length_8abf5, List.forall_mem_cons.mpr ⟨g_J4_append_bf812, List.forall_mem_cons.mpr ⟨g_J5_append_c97b9, List.forall_mem_cons.mpr ⟨g_J6_stringSize_0f7a4, List.forall_mem_cons.mpr ⟨g_J6_getChars_ba4f3, List.forall_mem_cons.mpr ⟨g_J5_isLatin1_aae02, List.forall_mem_cons.mpr ⟨g_J4_toString_0e30d, List.forall_mem_cons.mpr ⟨g_J0_init_81219, List.forall_mem_cons.mpr ⟨g_J0_init_db425, List.forall_mem_cons.mpr ⟨g_J4_length_8abf5, List.forall_mem_cons.mpr ⟨g_J5_length_8abf5, List.forall_mem_cons.mpr ⟨g_J7_copyOfRange_39247, List.forall_mem_cons.mpr ⟨g_J7_copyOfRangeByte_39247, List.forall_mem_cons.mpr ⟨g_J7_checkLength_df160, List.forall_mem_cons.mpr ⟨g_J9_min_7cf53, List.forall_mem_cons.mpr ⟨g_J9_max_7cf53, fun _ h => absurd h List.not_mem_nil⟩⟩⟩⟩⟩⟩⟩⟩⟩⟩⟩⟩⟩⟩⟩⟩⟩⟩⟩⟩⟩⟩⟩⟩⟩⟩⟩⟩⟩
def ky_call (m : kx_M) (cd : mw_CD) (as : List ky_V) (c s : Nat) : Option (Option ky_V × kx_M) := ky_run ky_tb 200 cd (0, as.map some ++ List.replicate (cd.2.2.1 - as.length) none, [], m, c, s)
/-- what is there is at 0 .. n - 1 -/
def ky_dn (m : kx_M) : Bool := ((List.range m.2.2.2).all fun a => (kx_kF m.2.2.1 a).isSome) && (m.2.2.1.all fun q => decide (q.1 < m.2.2.2)) && decide (m.2.2.2 ≤ 100)
theorem ky_dn_1 {m : kx_M} (h : ky_dn m = true) {a : Nat} (ha : a < m.2.2.2) : (kx_kF m.2.2.1 a).isSome = true := by
  unfold ky_dn at h
  simp only [Bool.and_eq_true] at h
  exact List.all_eq_true.mp h.1.1 a (List.mem_range.mpr ha)
theorem kx_kF_mem : ∀ {KL : List (Nat × Nat × Nat)} {a : Nat} {q : Nat × Nat}, kx_kF KL a = some q → ∃ z ∈ KL, z.1 = a
  | [], a, q, h => by cases h
  | z :: r, a, q, h => by
    unfold kx_kF mw_k at h
    split at h
    · rename_i e
      exact ⟨z, List.mem_cons_self, e.symm⟩
    · obtain ⟨y, hy, e⟩ := kx_kF_mem h
      exact ⟨y, List.mem_cons_of_mem _ hy, e⟩
theorem ky_dn_2 {m : kx_M} (h : ky_dn m = true) {a : Nat} {q : Nat × Nat} (ha : kx_kF m.2.2.1 a = some q) : a < m.2.2.2 ∧ m.2.2.2 ≤ 100 := by
  unfold ky_dn at h
  simp only [Bool.and_eq_true, decide_eq_true_eq] at h
  obtain ⟨z, hz, e⟩ := kx_kF_mem ha
  have := of_decide_eq_true (List.all_eq_true.mp h.1.2 z hz)
  exact ⟨by omega, h.2⟩
theorem ky_dn_3 {m : kx_M} (h : ky_dn m = true) : m.2.2.2 ≤ 100 := by
  unfold ky_dn at h
  simp only [Bool.and_eq_true, decide_eq_true_eq] at h
  exact h.2
section
variable {sc : Nat × (Nat → Int32)} {cd : mw_CD} {d pc c sl : Nat} {ls : List (Option Value)} {st st' : List Value} {M : mw_Mem} {Qr : Option Value → mw_Mem → Prop} {Qx : Nat → mw_Mem → Prop}
/-- a call on a builder at u, whose cells are as the machine that runs has them -/
theorem lc_ky {q : mw_I} {u : Nat} {m m' : kx_M} {cd' : mw_CD} {as : List ky_V} {v : Option ky_V} {c' s' : Nat} (h : ky_call m cd' as c' s' = some (v, m')) (hs : mw_sub u (kx_m m) M) (hu : u ≤ 990000) (hd1 : ky_dn m = true) (hd2 : ky_dn m' = true) (hn : m.2.2.2 ≤ m'.2.2.2) (h1 : mw_lk cd pc = some q) (hb : mw_ckX q cd' st = true) (h4 : q.2.2.2.2.1 = cd'.1) (hl : q.2.1 = 3) (h5 : mw_Good cd') (hd : 201 ≤ d) (h7 : c' ≤ c) (h8 : s' ≤ sl) (hr : mw_recv q st M) (hA : (st.take q.2.2.1.1).reverse = (as.map ky_v).map (mw_upV u)) (hst : st.drop q.2.2.1.1 = st')
    (K : ∀ M', mw_sub u (kx_m m') M' → LF u M M' → mw_Wp sc mw_Good cd d (pc + 3, ls, ((v.map ky_v).map (mw_upV u)).toList ++ st', M', c - c', sl - s') Qr Qx) : mw_Wp sc mw_Good cd d (pc, ls, st, M, c, sl) Qr Qx := by
  subst hst
  have n0 : M.2.2.2.2.2 = m.2.2.2 + u := hs.1
  refine mw_Wp.calX q cd' 200 c' s' u (kx_m m) (as.map ky_v) h1 hb h4 h5 (by omega) h7 h8 hr hA hs ?_
  have e : mw_entry cd'.2.2.1 (as.map ky_v) = ky_l (as.map some ++ List.replicate (cd'.2.2.1 - as.length) none) := by
    unfold mw_entry ky_l
    rw [List.map_append, List.map_replicate, List.map_map, List.map_map, List.length_map]
    rfl
  rw [e]
  refine ky_run_ok ky_tb_good 200 cd' (0, _, [], m, c', s') v m' 200 _ _ (Nat.le_refl _) h ?_
  rw [hl]
  refine K _ ⟨rfl, fun a q' ha => ?_⟩ ⟨?_, fun x hx => ?_, fun x hx e9 => ?_⟩
  · have ha : kx_kF m'.2.2.1 a = some q' := ha
    have k := ky_dn_2 hd2 ha
    have dm : mw_dom u M (kx_m m) (a + u) = true := by
      unfold mw_dom
      rw [Nat.add_sub_cancel]
      by_cases z : a < m.2.2.2
      · have := ky_dn_1 hd1 z
        simp only [Bool.and_eq_true, Bool.or_eq_true, decide_eq_true_eq]
        exact ⟨Nat.le_add_left _ _, Or.inl this⟩
      · simp only [Bool.and_eq_true, Bool.or_eq_true, decide_eq_true_eq]
        exact ⟨Nat.le_add_left _ _, Or.inr (by omega)⟩
    refine ⟨?_, by omega, ?_, ?_, ?_, fun k9 => ?_⟩
    · show (if mw_dom u M (kx_m m) (a + u) = true then (if a + u < 1000000 then kx_kF m'.2.2.1 (a + u - u) else none) else _) = _
      rw [if_pos dm, if_pos (by omega), Nat.add_sub_cancel]
      exact ha
    · show (if mw_dom u M (kx_m m) (a + u) = true then _ else _) = _
      rw [if_pos dm, Nat.add_sub_cancel]
    · show (if mw_dom u M (kx_m m) (a + u) = true then _ else _) = _
      rw [if_pos dm, Nat.add_sub_cancel]
    · show (if mw_dom u M (kx_m m) (a + u) = true then _ else _) = _
      rw [if_pos dm, Nat.add_sub_cancel]
    · show (if mw_dom u M (kx_m m) (a + u) = true then _ else _) = _
      rw [if_pos dm, Nat.add_sub_cancel]
  · show M.2.2.2.2.2 ≤ m'.2.2.2 + u
    omega
  · have nd : ¬ mw_dom u M (kx_m m) x = true := by
      unfold mw_dom
      intro e9
      simp only [Bool.and_eq_true, decide_eq_true_eq] at e9
      omega
    refine ⟨?_, ?_, ?_, ?_, ?_⟩
    · show (if mw_dom u M (kx_m m) x = true then _ else _) = _
      rw [if_neg nd]
    · show (if mw_dom u M (kx_m m) x = true then _ else _) = _
      rw [if_neg nd]
    · show (if mw_dom u M (kx_m m) x = true then _ else _) = _
      rw [if_neg nd]
    · funext k
      show (if mw_dom u M (kx_m m) x = true then _ else _) = _
      rw [if_neg nd]
    · show (if mw_dom u M (kx_m m) x = true then _ else _) = _
      rw [if_neg nd]
  · show (if mw_dom u M (kx_m m) x = true then (if x < 1000000 then _ else none) else M.2.2.2.2.1 x) = none
    split
    · rw [if_neg (by omega)]
    · exact e9
end
def ky_m0 : kx_M := ([], [], [(0, 1, 4)], 1)
theorem ky_sub0 {M : mw_Mem} (hM : M.2.2.2.2.2 ≤ 990000) : mw_sub M.2.2.2.2.2 (kx_m ky_m0) (mw_ncell M (1, 4)) := by
  obtain ⟨b, hbe⟩ : ∃ b, b = M.2.2.2.2.2 := ⟨_, rfl⟩
  rw [← hbe] at hM ⊢
  refine ⟨by rw [show (mw_ncell M (1, 4)).2.2.2.2.2 = b + 1 by rw [hbe]; rfl]; show b + 1 = 1 + b; omega, fun a q' ha => ?_⟩
  have ha : (if a = 0 then some ((1, 4) : Nat × Nat) else none) = some q' := ha
  by_cases z : a = 0
  · rw [if_pos z] at ha
    obtain rfl := Option.some.inj ha
    subst z
    rw [Nat.zero_add]
    refine ⟨?_, by omega, ?_, ?_, ?_, fun k => ?_⟩
    · show mw_k M.2.2.2.2.1 M.2.2.2.2.2 (some (1, 4)) b = _
      unfold mw_k
      rw [if_pos hbe]
    · funext k
      show mw_z M.1 M.2.2.2.2.2 0 b k = 0
      unfold mw_z
      rw [if_pos hbe]
    · funext k
      show mw_z M.2.1 M.2.2.2.2.2 0 b k = 0
      unfold mw_z
      rw [if_pos hbe]
    · funext k
      show mw_z M.2.2.1 M.2.2.2.2.2 0 b k = 0
      unfold mw_z
      rw [if_pos hbe]
    · show mw_z M.2.2.2.1 M.2.2.2.2.2 none b k = none
      unfold mw_z
      rw [if_pos hbe]
  · rw [if_neg z] at ha
    cases ha
/-- the text l stands at a -/
def ky_txt (m : kx_M) (a : Nat) (l : List Int) : Bool := (match kx_kF m.2.2.1 a with
  | some (0, _) => true
  | _ => false) && decide (kx_iF m.1 a 1 = 0) && (match kx_rF m.2.1 a 0 with
  | some e => decide (kx_kF m.2.2.1 e = some (24, l.length)) && ((List.range l.length).all fun k => decide (kx_iF m.1 e k = Int32.ofInt (l.getD k 0)))
  | none => false) && decide (l.length ≤ 100) && (l.all fun x => decide (0 ≤ x ∧ x < 128))
theorem ky_Str {u a : Nat} {m : kx_M} {M : mw_Mem} {l : List Int} (hs : mw_sub u (kx_m m) M) (hu : u ≤ 990000) (hd : ky_dn m = true) (h : ky_txt m a l = true) : Str M (a + u) l.length (fun k => l.getD k 0) := by
  unfold ky_txt at h
  simp only [Bool.and_eq_true, decide_eq_true_eq] at h
  obtain ⟨⟨⟨⟨h1, h2⟩, h3⟩, h4⟩, h5⟩ := h
  obtain ⟨nk, hk⟩ : ∃ nk, kx_kF m.2.2.1 a = some (0, nk) := by
    split at h1
    · rename_i nk hk
      exact ⟨nk, hk⟩
    · cases h1
  split at h3
  · rename_i e he
    simp only [Bool.and_eq_true, decide_eq_true_eq] at h3
    have ba := ky_dn_2 hd hk
    have be := ky_dn_2 hd h3.1
    have sa := hs.2 a _ hk
    have se := hs.2 e _ h3.1
    refine ⟨h4, fun k hk9 => ?_, Or.inr ⟨e + u, nk, ⟨by omega, by omega⟩, sa.1, ?_, ?_, se.1, fun k hk9 => ?_⟩⟩
    · have hm : l[k] ∈ l := List.getElem_mem hk9
      have := of_decide_eq_true (List.all_eq_true.mp h5 _ hm)
      show 0 ≤ l.getD k 0 ∧ l.getD k 0 < 128
      rw [List.getD_eq_getElem?_getD, List.getElem?_eq_getElem hk9]
      exact this
    · rw [sa.2.2.2.2.2 0, show (kx_m m).2.2.2.1 a 0 = some e from he]
      show some (mw_up u e) = some (e + u)
      unfold mw_up
      rw [if_pos (by omega), if_pos (by omega)]
    · rw [sa.2.2.1]
      exact h2
    · rw [se.2.2.1]
      exact of_decide_eq_true (List.all_eq_true.mp h3.2 k (List.mem_range.mpr hk9))
  · cases h3
/-- two texts with a number between them -/
def ky_cat (t1 : Nat) (x : Int32) (t2 : Nat) (l : List Int) : Bool := match ky_call ky_m0 d_J4_init_da8c8 [.inr (some 0)] 1 16 with
  | some (none, m1) => (ky_dn m1 && Nat.ble 1 m1.2.2.2) && (match ky_call m1 d_J4_append_15ec4 [.inr (some 0), .inr (some t1)] 1 150 with
    | some (some (.inr (some 0)), m2) => (ky_dn m2 && Nat.ble m1.2.2.2 m2.2.2.2) && (match ky_call m2 d_J4_append_bf812 [.inr (some 0), .inl x] 1 150 with
      | some (some (.inr (some 0)), m3) => (ky_dn m3 && Nat.ble m2.2.2.2 m3.2.2.2) && (match ky_call m3 d_J4_append_15ec4 [.inr (some 0), .inr (some t2)] 1 150 with
        | some (some (.inr (some 0)), m4) => (ky_dn m4 && Nat.ble m3.2.2.2 m4.2.2.2) && (match ky_call m4 d_J4_toString_0e30d [.inr (some 0)] 2 110 with
          | some (some (.inr (some a)), m5) => (ky_dn m5 && Nat.ble m4.2.2.2 m5.2.2.2) && ky_txt m5 a l
          | _ => false)
        | _ => false)
      | _ => false)
    | _ => false)
  | _ => false
def ky_all (t1 : Nat) (x : Int32) (t2 : Nat) (l : List Int) : Prop := ∃ (m1 m2 m3 m4 m5 : kx_M) (a : Nat), (ky_call ky_m0 d_J4_init_da8c8 [.inr (some 0)] 1 16 = some (none, m1) ∧ ky_dn m1 = true ∧ 1 ≤ m1.2.2.2) ∧ (ky_call m1 d_J4_append_15ec4 [.inr (some 0), .inr (some t1)] 1 150 = some (some (.inr (some 0)), m2) ∧ ky_dn m2 = true ∧ m1.2.2.2 ≤ m2.2.2.2) ∧ (ky_call m2 d_J4_append_bf812 [.inr (some 0), .inl x] 1 150 = some (some (.inr (some 0)), m3) ∧ ky_dn m3 = true ∧ m2.2.2.2 ≤ m3.2.2.2) ∧ (ky_call m3 d_J4_append_15ec4 [.inr (some 0), .inr (some t2)] 1 150 = some (some (.inr (some 0)), m4) ∧ ky_dn m4 = true ∧ m3.2.2.2 ≤ m4.2.2.2) ∧ (ky_call m4 d_J4_toString_0e30d [.inr (some 0)] 2 110 = some (some (.inr (some a)), m5) ∧ ky_dn m5 = true ∧ m4.2.2.2 ≤ m5.2.2.2 ∧ a < m5.2.2.2) ∧ ky_txt m5 a l = true
theorem ky_txt_lt {m : kx_M} {a : Nat} {l : List Int} (hd : ky_dn m = true) (h : ky_txt m a l = true) : a < m.2.2.2 := by
  unfold ky_txt at h
  simp only [Bool.and_eq_true] at h
  have h1 := h.1.1.1.1
  split at h1
  · rename_i nk hk
    exact (ky_dn_2 hd hk).1
  · cases h1
theorem ky_cat_ok {t1 : Nat} {x : Int32} {t2 : Nat} {l : List Int} (h : ky_cat t1 x t2 l = true) : ky_all t1 x t2 l := by
  unfold ky_cat at h
  split at h
  · rename_i m1 h1
    simp only [Bool.and_eq_true] at h
    obtain ⟨⟨d1, n1⟩, h⟩ := h
    split at h
    · rename_i m2 h2
      simp only [Bool.and_eq_true] at h
      obtain ⟨⟨d2, n2⟩, h⟩ := h
      split at h
      · rename_i m3 h3
        simp only [Bool.and_eq_true] at h
        obtain ⟨⟨d3, n3⟩, h⟩ := h
        split at h
        · rename_i m4 h4
          simp only [Bool.and_eq_true] at h
          obtain ⟨⟨d4, n4⟩, h⟩ := h
          split at h
          · rename_i a m5 h5
            simp only [Bool.and_eq_true] at h
            obtain ⟨⟨d5, n5⟩, h⟩ := h
            exact ⟨m1, m2, m3, m4, m5, a, ⟨h1, d1, Nat.le_of_ble_eq_true n1⟩, ⟨h2, d2, Nat.le_of_ble_eq_true n2⟩, ⟨h3, d3, Nat.le_of_ble_eq_true n3⟩, ⟨h4, d4, Nat.le_of_ble_eq_true n4⟩, ⟨h5, d5, Nat.le_of_ble_eq_true n5, ky_txt_lt d5 h⟩, h⟩
          · cases h
        · cases h
      · cases h
    · cases h
  · cases h
def ts_10 : List Int := [112, 97, 115, 115, 32, 53, 59, 112, 97, 115, 115, 32, 50, 52, 59, 112, 97, 115, 115, 32, 49]
def ts_11 : List Int := [112, 97, 115, 115, 32, 49, 59, 112, 97, 115, 115, 32, 52, 57]
def ts_12 : List Int := [115, 97, 105, 108, 32, 57, 32, 48]
def ts_13 : List Int := [99]
def ts_14 : List Int := [108]
def ts_15 : List Int := [99, 104, 97, 110, 110, 101, 108, 32, 48]
def ts_16 : List Int := [102, 101, 114, 114, 121, 32, 48, 32, 49]
def ts_17 : List Int := [112, 97, 115, 115, 32, 49, 50, 51]
def ts_18 : List Int := []
def ts_19 : List Int := [108, 111, 97, 100, 32, 48, 59]
def ts_20 : List Int := [99, 114, 97, 116, 101, 114, 32, 120]
def ts_21 : List Int := [109, 111, 111, 110, 32, 48, 49, 32, 53]
def ts_22 : List Int := [122]
def ts_23 : List Int := [99, 114, 97, 116, 101, 114, 32, 52, 59, 99, 114, 97, 116, 101, 114, 32, 51, 59, 99, 114, 97, 116, 101, 114, 32, 57, 59, 99, 104, 97, 110, 110, 101, 108, 32, 48, 49, 32]
def ts_24 : List Int := [32, 53, 59, 99, 104, 97, 110, 110, 101, 108, 32, 49, 50, 32, 51, 32, 57]
def ts_25 : List Int := [102, 101, 114, 114, 121, 32, 48, 32, 53, 32, 52, 48, 59, 109, 111, 111, 110, 32, 48, 50, 32]
def ts_26 : List Int := [32, 52, 59, 109, 111, 111, 110, 32, 48, 50, 32, 50, 52, 32, 50, 59, 109, 111, 111, 110, 32, 48, 49, 32, 51, 48, 32, 56]
def ts_27 : List Int := [32, 52, 59, 109, 111, 111, 110, 32, 48, 50, 32, 50, 52, 32, 50, 59, 109, 111, 111, 110, 32, 48, 49, 32, 51, 48, 32, 49]
def ts_28 : List Int := [48, 62, 49, 120]
def ts_29 : List Int := [32, 48, 32, 49]
/-- a number's digits -/
def dg (k : Nat) : List Int := if k < 10 then [48 + (k : Int)] else [48 + ((k / 10 : Nat) : Int), 48 + ((k % 10 : Nat) : Int)]
set_option maxRecDepth 100000 in
theorem cat_1 : ((List.range 5).all fun k => k == 0 || ky_cat 1000024 (Int32.ofNat k) 1000025 (ts_23 ++ (dg k ++ ts_24))) = true := by decide +kernel
set_option maxRecDepth 100000 in
theorem cat_4 : ((List.range 5).all fun k => k == 0 || ky_cat 1000029 (Int32.ofNat k) 1000030 (ts_28 ++ (dg k ++ ts_29))) = true := by decide +kernel
set_option maxRecDepth 100000 in
theorem cat_2 : ((List.range 17).all fun k => k == 0 || ky_cat 1000026 (Int32.ofNat k) 1000027 (ts_25 ++ (dg k ++ ts_26))) = true := by decide +kernel
set_option maxRecDepth 100000 in
theorem cat_3 : ((List.range 17).all fun k => k == 0 || ky_cat 1000026 (Int32.ofNat k) 1000028 (ts_25 ++ (dg k ++ ts_27))) = true := by decide +kernel
