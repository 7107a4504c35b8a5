/-! rows for old things (string constants, digits), bytes, later places -/
section
variable {sc : Nat × (Nat → Int32)} {cd : mw_CD} {D pc : Nat} {ls : List (Option nw_V)} {st : List nw_V} {M : nw_Mem} {c sl : Nat} {Qr : nw_QR} {Qx : nw_QX}
theorem nw_ldcS {w j : Nat} {len d : Nat} {ps : List Nat} {y : MethodName} {k : Int32} (hl : mw_lk cd pc = some (.ldc w, len, (1, j, d), ps, y, k)) (p' : Nat) (hp : pc + 2 = p') (h : NW sc cd D (p', ls, .inr (.inl (some (1000001 + j))) :: st, M, c, sl) Qr Qx) : NW sc cd D (pc, ls, st, M, c, sl) Qr Qx := by
  subst hp
  refine nw_gen hl fun ok => ?_
  obtain ⟨okM, okL, okS⟩ := ok
  exact ⟨(_, ls, .inr (.inl (some (1000001 + j))) :: st, M, c, sl), rfl, ⟨okM, okL, nw_okc True.intro okS⟩, h⟩
theorem nw_gst0 {w : Nat} {len b d : Nat} {ps : List Nat} {y : MethodName} {k : Int32} (hl : mw_lk cd pc = some (.getstatic w, len, (0, b, d), ps, y, k)) (p' : Nat) (hp : pc + 3 = p') (h : NW sc cd D (p', ls, .inl 1 :: st, M, c, sl) Qr Qx) : NW sc cd D (pc, ls, st, M, c, sl) Qr Qx := by
  subst hp
  refine nw_gen hl fun ok => ?_
  obtain ⟨okM, okL, okS⟩ := ok
  exact ⟨(_, ls, .inl 1 :: st, M, c, sl), rfl, ⟨okM, okL, nw_okc (show nw_in 1 from ⟨by decide, by decide⟩) okS⟩, h⟩
theorem nw_gst1 {w : Nat} {len b d : Nat} {ps : List Nat} {y : MethodName} {k : Int32} (hl : mw_lk cd pc = some (.getstatic w, len, (1, b, d), ps, y, k)) (p' : Nat) (hp : pc + 3 = p') (h : NW sc cd D (p', ls, .inr (.inl (some 1000201)) :: st, M, c, sl) Qr Qx) : NW sc cd D (pc, ls, st, M, c, sl) Qr Qx := by
  subst hp
  refine nw_gen hl fun ok => ?_
  obtain ⟨okM, okL, okS⟩ := ok
  exact ⟨(_, ls, .inr (.inl (some 1000201)) :: st, M, c, sl), rfl, ⟨okM, okL, nw_okc True.intro okS⟩, h⟩
theorem nw_gst2 {w : Nat} {len b d : Nat} {ps : List Nat} {y : MethodName} {k : Int32} (hl : mw_lk cd pc = some (.getstatic w, len, (2, b, d), ps, y, k)) (p' : Nat) (hp : pc + 3 = p') (h : NW sc cd D (p', ls, .inr (.inl (some 1000202)) :: st, M, c, sl) Qr Qx) : NW sc cd D (pc, ls, st, M, c, sl) Qr Qx := by
  subst hp
  refine nw_gen hl fun ok => ?_
  obtain ⟨okM, okL, okS⟩ := ok
  exact ⟨(_, ls, .inr (.inl (some 1000202)) :: st, M, c, sl), rfl, ⟨okM, okL, nw_okc True.intro okS⟩, h⟩
theorem nw_gst3 {w : Nat} {len b d : Nat} {ps : List Nat} {y : MethodName} {k : Int32} (hl : mw_lk cd pc = some (.getstatic w, len, (3, b, d), ps, y, k)) (p' : Nat) (hp : pc + 3 = p') (h : NW sc cd D (p', ls, .inr (.inl none) :: st, M, c, sl) Qr Qx) : NW sc cd D (pc, ls, st, M, c, sl) Qr Qx := by
  subst hp
  refine nw_gen hl fun ok => ?_
  obtain ⟨okM, okL, okS⟩ := ok
  exact ⟨(_, ls, .inr (.inl none) :: st, M, c, sl), rfl, ⟨okM, okL, nw_okc True.intro okS⟩, h⟩
theorem nw_ldcw {w : Nat} {len a b d : Nat} {ps : List Nat} {y : MethodName} {k : Int32} (hl : mw_lk cd pc = some (.ldc_w w, len, (a, b, d), ps, y, k)) (p' : Nat) (hp : pc + 3 = p') {v : Int} (hv : Int32.ofInt v = k ∧ nw_in v) (hz : ¬ a = 1 := by decide) (h : NW sc cd D (p', ls, .inl v :: st, M, c, sl) Qr Qx) : NW sc cd D (pc, ls, st, M, c, sl) Qr Qx := by
  subst hp
  refine nw_gen hl fun ok => ?_
  obtain ⟨okM, okL, okS⟩ := ok
  show mw_app (if a = 1 then _ else _) _ _
  rw [if_neg hz]
  refine ⟨(_, ls, .inl v :: st, M, c, sl), ?_, ⟨okM, okL, nw_okc hv.2 okS⟩, h⟩
  rw [← hv.1]
  rfl
theorem nw_getO0 {w len t : Nat} {ps : List Nat} {y : MethodName} {k : Int32} {a : Nat} (hl : mw_lk cd pc = some (.getfield w, len, (0, 0, t), ps, y, k)) (p' : Nat) (hp : pc + 3 = p') (ha : 1000001 ≤ a ∧ a < 1000031) (h : NW sc cd D (p', ls, .inr (.inl (some (a + 100))) :: st, M, c, sl) Qr Qx) : NW sc cd D (pc, ls, .inr (.inl (some a)) :: st, M, c, sl) Qr Qx := by
  subst hp
  refine nw_gen hl fun ok => ?_
  obtain ⟨okM, okL, okS⟩ := ok
  show mw_app (if 1000001 ≤ a ∧ a < 1000031 then _ else _) _ _
  rw [if_pos ha]
  exact ⟨(_, ls, .inr (.inl (some (a + 100))) :: st, M, c, sl), rfl, ⟨okM, okL, nw_okc True.intro fun v hv => okS v (List.mem_cons_of_mem _ hv)⟩, h⟩
theorem nw_getO1 {w len t : Nat} {ps : List Nat} {y : MethodName} {k : Int32} {a : Nat} (hl : mw_lk cd pc = some (.getfield w, len, (0, 1, t), ps, y, k)) (p' : Nat) (hp : pc + 3 = p') (ha : 1000001 ≤ a ∧ a < 1000031) (h : NW sc cd D (p', ls, .inl 0 :: st, M, c, sl) Qr Qx) : NW sc cd D (pc, ls, .inr (.inl (some a)) :: st, M, c, sl) Qr Qx := by
  subst hp
  refine nw_gen hl fun ok => ?_
  obtain ⟨okM, okL, okS⟩ := ok
  show mw_app (if 1000001 ≤ a ∧ a < 1000031 then _ else _) _ _
  rw [if_pos ha]
  exact ⟨(_, ls, .inl 0 :: st, M, c, sl), rfl, ⟨okM, okL, nw_okc (show nw_in 0 from ⟨by decide, by decide⟩) fun v hv => okS v (List.mem_cons_of_mem _ hv)⟩, h⟩
/-- a byte of an old thing -/
def nw_ob (a : Nat) (i : Int) : Int := (mw_ob a i.toNat).toInt
theorem nw_baldO {len a' b d : Nat} {ps : List Nat} {y : MethodName} {k : Int32} {a : Nat} {i : Int} (hl : mw_lk cd pc = some (.baload, len, (a', b, d), ps, y, k)) (p' : Nat) (hp : pc + 1 = p') (ha : mw_oa a = true) (hi : 0 ≤ i ∧ i < (mw_ol a : Int)) (h : NW sc cd D (p', ls, .inl (nw_ob a i) :: st, M, c, sl) Qr Qx) : NW sc cd D (pc, ls, .inl i :: .inr (.inl (some a)) :: st, M, c, sl) Qr Qx := by
  subst hp
  refine nw_gen hl fun ok => ?_
  obtain ⟨okM, okL, okS⟩ := ok
  have hr : nw_in i := okS _ List.mem_cons_self
  show mw_app (if mw_oa a = true then _ else _) _ _
  rw [if_pos ha]
  refine ⟨nw_vpin hr hi, (_, ls, .inl (nw_ob a i) :: st, M, c, sl), ?_, ⟨okM, okL, nw_okc (nw_inT _) fun v hv => okS v (List.mem_cons_of_mem _ (List.mem_cons_of_mem _ hv))⟩, h⟩
  refine congrArg (fun z => (pc + 1, nw_ls ls, Value.int z :: st.map nw_v, nw_m M, c, sl)) ?_
  show mw_ob a (Int32.ofInt i).toNatClampNeg = Int32.ofInt (nw_ob a i)
  rw [nw_cl hr, nw_ob, Int32.ofInt_toInt]
theorem nw_alenO {len a' b d : Nat} {ps : List Nat} {y : MethodName} {k : Int32} {a n : Nat} (hl : mw_lk cd pc = some (.arraylength, len, (a', b, d), ps, y, k)) (p' : Nat) (hp : pc + 1 = p') (ha : mw_oa a = true) (hn : mw_ol a = n ∧ n < 2000) (h : NW sc cd D (p', ls, .inl (n : Int) :: st, M, c, sl) Qr Qx) : NW sc cd D (pc, ls, .inr (.inl (some a)) :: st, M, c, sl) Qr Qx := by
  subst hp
  refine nw_gen hl fun ok => ?_
  obtain ⟨okM, okL, okS⟩ := ok
  have h0 : a ≠ 1000000 := fun e => by rw [e] at ha; exact absurd ha (by decide)
  show mw_app (if a = 1000000 then _ else if mw_oa a = true then _ else _) _ _
  rw [if_neg h0, if_pos ha, hn.1]
  exact ⟨(_, ls, .inl (n : Int) :: st, M, c, sl), rfl, ⟨okM, okL, nw_okc (show nw_in (n : Int) from ⟨by omega, by omega⟩) fun v hv => okS v (List.mem_cons_of_mem _ hv)⟩, h⟩
/-- the kind of a place, the later ones too -/
def nw_K (M : nw_Mem) (a : Nat) (q : Nat × Nat) : Prop := a < 1000000 ∧ (if a < 303 then mw_kd0 a else M.2.2.2.2.2.1 a) = some q
theorem nw_K.kd {a : Nat} {q : Nat × Nat} (h : nw_K M a q) : (nw_m M).2.2.2.2.1 a = some q := h.2
theorem nw_K.oa {a : Nat} {q : Nat × Nat} (h : nw_K M a q) : ¬ mw_oa a = true := by
  have := h.1
  unfold mw_oa
  simp only [Bool.or_eq_true, Bool.and_eq_true, decide_eq_true_eq]
  omega
theorem nw_K.of {a : Nat} {q : Nat × Nat} (h : a < 303 ∧ mw_kd0 a = some q) : nw_K M a q := ⟨by omega, by rw [if_pos h.1]; exact h.2⟩
theorem nw_baldX {len a' b d : Nat} {ps : List Nat} {y : MethodName} {k : Int32} {a n : Nat} {i : Int} (hl : mw_lk cd pc = some (.baload, len, (a', b, d), ps, y, k)) (p' : Nat) (hp : pc + 1 = p') (hk : nw_K M a (24, n)) (hi : 0 ≤ i ∧ i < (n : Int)) {v : Int} (hv : M.1 a i = v) (h : NW sc cd D (p', ls, .inl v :: st, M, c, sl) Qr Qx) : NW sc cd D (pc, ls, .inl i :: .inr (.inl (some a)) :: st, M, c, sl) Qr Qx := by
  subst hp
  refine nw_gen hl fun ok => ?_
  obtain ⟨okM, okL, okS⟩ := ok
  subst hv
  have hr : nw_in i := okS _ List.mem_cons_self
  show mw_app (if mw_oa a = true then _ else match (nw_m M).2.2.2.2.1 a with | some (k, n) => if k = 24 then _ else _ | none => _) _ _
  rw [if_neg hk.oa, hk.kd]
  show mw_app (if 24 = 24 then _ else _) _ _
  rw [if_pos rfl]
  refine ⟨nw_vpin hr hi, (_, ls, .inl (M.1 a i) :: st, M, c, sl), ?_, ⟨okM, okL, nw_okc (okM.1 a i) fun v hv => okS v (List.mem_cons_of_mem _ (List.mem_cons_of_mem _ hv))⟩, h⟩
  refine congrArg (fun z => (pc + 1, nw_ls ls, Value.int (Int32.ofInt (M.1 a z)) :: st.map nw_v, nw_m M, c, sl)) ?_
  rw [nw_cl hr]
  omega
theorem nw_narB {x : Int} (h : -128 ≤ x ∧ x < 128) : vp_nar .byte (Int32.ofInt x) = Int32.ofInt x := by
  have hx : nw_in x := ⟨by omega, by omega⟩
  rw [vp_nar_byte]
  refine Int32.toInt_inj.mp ?_
  rw [Int8.toInt_toInt32, Int32.toInt_toInt8, nw_ti hx]
  exact Int.bmod_eq_of_le (by omega) (by omega)
theorem nw_bastX {len a' b d : Nat} {ps : List Nat} {y : MethodName} {k : Int32} {a n : Nat} {i v : Int} (hl : mw_lk cd pc = some (.bastore, len, (a', b, d), ps, y, k)) (p' : Nat) (hp : pc + 1 = p') (hk : nw_K M a (24, n)) (hi : 0 ≤ i ∧ i < (n : Int)) (hv : -128 ≤ v ∧ v < 128) (h : NW sc cd D (p', ls, st, (nw_u M.1 a i v, M.2), c, sl) Qr Qx) : NW sc cd D (pc, ls, .inl v :: .inl i :: .inr (.inl (some a)) :: st, M, c, sl) Qr Qx := by
  subst hp
  refine nw_gen hl fun ok => ?_
  obtain ⟨okM, okL, okS⟩ := ok
  have hr : nw_in i := okS _ (List.mem_cons_of_mem _ List.mem_cons_self)
  have hv' : nw_in v := okS _ List.mem_cons_self
  show mw_app (match (nw_m M).2.2.2.2.1 a with | some (k, n) => if k = 24 then _ else _ | none => _) _ _
  rw [hk.kd]
  show mw_app (if 24 = 24 then _ else _) _ _
  rw [if_pos rfl]
  refine ⟨nw_vpin hr hi, (_, ls, st, (nw_u M.1 a i v, M.2), c, sl), ?_, ⟨⟨nw_uin okM.1 hv', okM.2⟩, okL, fun v hv => okS v (List.mem_cons_of_mem _ (List.mem_cons_of_mem _ (List.mem_cons_of_mem _ hv)))⟩, h⟩
  refine congrArg (fun z => (pc + 1, nw_ls ls, st.map nw_v, (z, (nw_m M).2), c, sl)) ?_
  rw [nw_narB hv]
  exact nw_uM hr hi.1
theorem nw_alenX {len a' b d : Nat} {ps : List Nat} {y : MethodName} {k : Int32} {a n kk : Nat} (hl : mw_lk cd pc = some (.arraylength, len, (a', b, d), ps, y, k)) (p' : Nat) (hp : pc + 1 = p') (hk : nw_K M a (kk, n)) (hn : 20 ≤ kk ∧ kk < 27 ∧ n < 2000) (h : NW sc cd D (p', ls, .inl (n : Int) :: st, M, c, sl) Qr Qx) : NW sc cd D (pc, ls, .inr (.inl (some a)) :: st, M, c, sl) Qr Qx := by
  subst hp
  refine nw_gen hl fun ok => ?_
  obtain ⟨okM, okL, okS⟩ := ok
  have h0 : a ≠ 1000000 := fun e => by have := hk.1; omega
  show mw_app (if a = 1000000 then _ else if mw_oa a = true then _ else match (nw_m M).2.2.2.2.1 a with | some (k, n) => if 20 ≤ k ∧ k < 27 then _ else _ | none => _) _ _
  rw [if_neg h0, if_neg hk.oa, hk.kd]
  show mw_app (if 20 ≤ kk ∧ kk < 27 then _ else _) _ _
  rw [if_pos ⟨hn.1, hn.2.1⟩]
  exact ⟨(_, ls, .inl (n : Int) :: st, M, c, sl), rfl, ⟨okM, okL, nw_okc (show nw_in (n : Int) from ⟨by omega, by omega⟩) fun v hv => okS v (List.mem_cons_of_mem _ hv)⟩, h⟩
theorem nw_rt_none {a k : Nat} (h : 303 ≤ a) : mw_rt0 a k = none := by
  unfold mw_rt0
  by_cases e : a / 16 = 18
  · have z : a % 16 = 15 := by omega
    rw [e, z]
    rfl
  · have : mw_rml[a / 16]? = none := List.getElem?_eq_none (by show 19 ≤ a / 16; omega)
    rw [this]
/-- a new place of bytes -/
def nw_nW (W : nw_W) (m : Nat) : nw_W := (W.1, W.2.1, W.2.2.1, (fun x => if x = W.2.2.2.2 then some (24, m) else W.2.2.2.1 x), W.2.2.2.2 + 1)
def nw_z (J : Nat → Int → Int) (a : Nat) : Nat → Int → Int := fun x k => if x = a then 0 else J x k
theorem nw_newB {len a' b d : Nat} {ps : List Nat} {y : MethodName} {k : Int32} {m : Nat} (hl : mw_lk cd pc = some (.newarray .byte, len, (a', b, d), ps, y, k)) (p' : Nat) (hp : pc + 2 = p') (hn : 303 ≤ M.2.2.2.2.2.2) (hm : m < 60000000) (hc : 1 ≤ c) (hs : m ≤ sl)
    (h : ∀ E : Nat → Int → UInt64, (∀ x, ¬ x = M.2.2.2.2.2.2 → E x = M.2.2.1 x) → NW sc cd D (p', ls, .inr (.inl (some M.2.2.2.2.2.2)) :: st, (nw_z M.1 M.2.2.2.2.2.2, nw_z M.2.1 M.2.2.2.2.2.2, E, (nw_nW M.2.2 m).2), c - 1, sl - m) Qr Qx) : NW sc cd D (pc, ls, .inl (m : Int) :: st, M, c, sl) Qr Qx := by
  subst hp
  refine nw_gen hl fun ok => ?_
  obtain ⟨okM, okL, okS⟩ := ok
  have hr : nw_in (m : Int) := okS _ List.mem_cons_self
  show mw_app (if 1 ≤ c then _ else _) _ _
  rw [if_pos hc]
  have em : (Int32.ofInt (m : Int)).toNatClampNeg = m := by rw [nw_cl hr]; omega
  have E0 := h (fun x k => if x = M.2.2.2.2.2.2 then 0 else M.2.2.1 x k) (fun x hx => by funext k; exact if_neg hx)
  refine ⟨?_, (_, ls, .inr (.inl (some M.2.2.2.2.2.2)) :: st, (nw_z M.1 M.2.2.2.2.2.2, nw_z M.2.1 M.2.2.2.2.2.2, (fun x k => if x = M.2.2.2.2.2.2 then 0 else M.2.2.1 x k), (nw_nW M.2.2 m).2), c - 1, sl - m), ?_, ⟨⟨fun x k => ?_, fun x k => ?_⟩, okL, nw_okc True.intro fun v hv => okS v (List.mem_cons_of_mem _ hv)⟩, E0⟩
  · rw [em]
    refine ⟨?_, by omega, hs⟩
    rw [show (0 : Int32) = Int32.ofInt 0 from rfl, nw_lt hr ⟨by decide, by decide⟩]
    omega
  · rw [em]
    refine congrArg (fun z => (pc + 2, nw_ls ls, Value.ref M.2.2.2.2.2.2 :: st.map nw_v, z, c - 1, sl - m)) ?_
    unfold mw_ncell nw_m mw_W
    refine Prod.ext ?_ (Prod.ext ?_ (Prod.ext ?_ (Prod.ext ?_ (Prod.ext ?_ rfl))))
    · funext x k
      show (if x = M.2.2.2.2.2.2 then (0 : Int32) else Int32.ofInt (M.1 x k)) = Int32.ofInt (nw_z M.1 M.2.2.2.2.2.2 x k)
      unfold nw_z
      split <;> rfl
    · funext x k
      show (if x = M.2.2.2.2.2.2 then (0 : Int64) else Int64.ofInt (M.2.1 x k)) = Int64.ofInt (nw_z M.2.1 M.2.2.2.2.2.2 x k)
      unfold nw_z
      split <;> rfl
    · funext x k
      rfl
    · funext x k
      show (if x = M.2.2.2.2.2.2 then none else mw_rm0 M.2.2.2.1 M.2.2.2.2.1 x k) = mw_rm0 M.2.2.2.1 M.2.2.2.2.1 x k
      split
      · rename_i e
        unfold mw_rm0
        rw [e, if_neg (by omega), if_neg (by omega), nw_rt_none hn]
      · rfl
    · funext x
      show (if x = M.2.2.2.2.2.2 then some (24, m) else mw_kdx M.2.2.2.2.2.1 x) = mw_kdx (fun x => if x = M.2.2.2.2.2.2 then some (24, m) else M.2.2.2.2.2.1 x) x
      unfold mw_kdx
      by_cases e : x < 303
      · rw [if_pos e, if_pos e, if_neg (by omega)]
      · rw [if_neg e, if_neg e]
  · show nw_in (nw_z M.1 _ x k)
    unfold nw_z
    split
    · exact ⟨by decide, by decide⟩
    · exact okM.1 _ _
  · show nw_il (nw_z M.2.1 _ x k)
    unfold nw_z
    split
    · exact ⟨by decide, by decide⟩
    · exact okM.2 _ _
/-- the line's bytes are elsewhere now -/
def nw_sW (W : nw_W) (a : Nat) : nw_W := (W.1, W.2.1, a, W.2.2.2)
theorem nw_getSB {i : Nat} {len : Nat} {ps : List Nat} {y' : MethodName} {k : Int32} (hl : mw_lk cd pc = some (.getfield i, len, (1, 0, 2), ps, y', k)) (p' : Nat) (hp : pc + 3 = p') (h : NW sc cd D (p', ls, .inr (.inl (some M.2.2.2.2.1)) :: st, M, c, sl) Qr Qx) : NW sc cd D (pc, ls, .inr (.inl (some 301)) :: st, M, c, sl) Qr Qx :=
  nw_getA hl p' hp ⟨by decide, by decide +kernel⟩ (m := 4) (by unfold mw_rm0; rw [if_neg (by decide), if_pos rfl, if_pos rfl]) h
theorem nw_putSBb {z : Nat} (hz : z = 301) {i : Nat} {len : Nat} {ps : List Nat} {y' : MethodName} {k : Int32} {a : Nat} (hl : mw_lk cd pc = some (.putfield i, len, (1, 0, 2), ps, y', k)) (p' : Nat) (hp : pc + 3 = p') (h : NW sc cd D (p', ls, st, (M.1, M.2.1, nw_sW M.2.2 a), c, sl) Qr Qx) : NW sc cd D (pc, ls, .inr (.inl (some a)) :: .inr (.inl (some z)) :: st, M, c, sl) Qr Qx := by
  subst hp
  refine nw_gen hl fun ok => ?_
  obtain ⟨okM, okL, okS⟩ := ok
  show mw_app (match (nw_m M).2.2.2.2.1 z with | some (k, _) => if k = 1 ∧ 2 = 2 then _ else _ | none => _) _ _
  rw [nw_kd (a := z) (q := (1, 4)) (hz ▸ ⟨by decide, by decide +kernel⟩)]
  show mw_app (if 1 = 1 ∧ 2 = 2 then _ else _) _ _
  rw [if_pos ⟨rfl, rfl⟩]
  refine ⟨(_, ls, st, (M.1, M.2.1, nw_sW M.2.2 a), c, sl), ?_, ⟨okM, okL, fun v hv => okS v (List.mem_cons_of_mem _ (List.mem_cons_of_mem _ hv))⟩, h⟩
  refine congrArg (fun z => (pc + 3, nw_ls ls, st.map nw_v, ((nw_m M).1, (nw_m M).2.1, (nw_m M).2.2.1, z, (nw_m M).2.2.2.2), c, sl)) ?_
  funext x k
  show (if x = z then (if k = 0 then some a else mw_rm0 M.2.2.2.1 M.2.2.2.2.1 x k) else mw_rm0 M.2.2.2.1 M.2.2.2.2.1 x k) = mw_rm0 M.2.2.2.1 a x k
  subst hz
  unfold mw_rm0
  by_cases e : x = 301
  · subst e
    by_cases e2 : k = 0
    · simp [e2]
    · simp [e2]
  · simp [e]
theorem nw_putSB {i : Nat} {len : Nat} {ps : List Nat} {y' : MethodName} {k : Int32} {a : Nat} (hl : mw_lk cd pc = some (.putfield i, len, (1, 0, 2), ps, y', k)) (p' : Nat) (hp : pc + 3 = p') (h : NW sc cd D (p', ls, st, (M.1, M.2.1, nw_sW M.2.2 a), c, sl) Qr Qx) : NW sc cd D (pc, ls, .inr (.inl (some a)) :: .inr (.inl (some 301)) :: st, M, c, sl) Qr Qx := nw_putSBb rfl hl p' hp h
theorem nw_i2b {len a b d : Nat} {ps : List Nat} {y' : MethodName} {k : Int32} {x : Int} (hl : mw_lk cd pc = some (.i2b, len, (a, b, d), ps, y', k)) (p' : Nat) (hp : pc + 1 = p') (hr : -128 ≤ x ∧ x < 128) (h : NW sc cd D (p', ls, .inl x :: st, M, c, sl) Qr Qx) : NW sc cd D (pc, ls, .inl x :: st, M, c, sl) Qr Qx := by
  subst hp
  refine nw_gen hl fun ok => ?_
  obtain ⟨okM, okL, okS⟩ := ok
  refine ⟨(pc + 1, ls, .inl x :: st, M, c, sl), ?_, ⟨okM, okL, okS⟩, h⟩
  refine congrArg (fun z => (pc + 1, nw_ls ls, Value.int z :: st.map nw_v, nw_m M, c, sl)) ?_
  rw [← vp_nar_byte, nw_narB hr]
theorem nw_dupx1 {len a b d : Nat} {ps : List Nat} {y' : MethodName} {k : Int32} {x : Int} {r : Nat} (hl : mw_lk cd pc = some (.dup_x1, len, (a, b, d), ps, y', k)) (p' : Nat) (hp : pc + 1 = p') (h : NW sc cd D (p', ls, .inl x :: .inr (.inl (some r)) :: .inl x :: st, M, c, sl) Qr Qx) : NW sc cd D (pc, ls, .inl x :: .inr (.inl (some r)) :: st, M, c, sl) Qr Qx := by
  subst hp
  refine nw_gen hl fun ok => ?_
  obtain ⟨okM, okL, okS⟩ := ok
  exact ⟨(_, ls, .inl x :: .inr (.inl (some r)) :: .inl x :: st, M, c, sl), rfl, ⟨okM, okL, nw_okc (okS _ List.mem_cons_self) (nw_okc True.intro fun v hv => okS v ((List.mem_cons.mp hv).elim (fun e => e ▸ List.mem_cons_self) (fun e => List.mem_cons_of_mem _ (List.mem_cons_of_mem _ e))))⟩, h⟩
theorem nw_ireturnB {len a b d : Nat} {ps : List Nat} {y' : MethodName} {k : Int32} {x : Int} (hl : mw_lk cd pc = some (.ireturn, len, (a, b, d), ps, y', k)) (hr : cd.2.2.2.1 = some .byte) (hx : -128 ≤ x ∧ x < 128) (h : Qr (some (.inl x)) M) : NW sc cd D (pc, ls, [.inl x], M, c, sl) Qr Qx := by
  refine nw_gen hl fun ok => ?_
  obtain ⟨okM, okL, okS⟩ := ok
  show mw_app (if cd.2.2.2.1 = some .int then _ else _) _ _
  rw [if_neg (by rw [hr]; decide)]
  refine ⟨⟨.byte, hr, ?_⟩, some (.inl x), M, rfl, rfl, okM, fun v hv => by cases hv; exact okS _ List.mem_cons_self, h⟩
  show Value.int (Int32.ofInt x).toInt8.toInt32 = _
  rw [← vp_nar_byte, nw_narB hx]
/-- the places of history's states -/
def nw_hset (hp : Nat → Nat) (i x : Nat) : Nat → Nat := fun k => if k = i then x else hp k
def nw_hW (W : nw_W) (i x : Nat) : nw_W := (W.1, nw_hset W.2.1 i x, W.2.2)
theorem nw_getHP {len a' b d : Nat} {ps : List Nat} {y : MethodName} {k : Int32} {i : Int} (hl : mw_lk cd pc = some (.aaload, len, (a', b, d), ps, y, k)) (p' : Nat) (hp : pc + 1 = p') (hi : 0 ≤ i ∧ i < 8) (h : NW sc cd D (p', ls, .inr (.inl (some (M.2.2.2.1 i.toNat))) :: st, M, c, sl) Qr Qx) : NW sc cd D (pc, ls, .inl i :: .inr (.inl (some 104)) :: st, M, c, sl) Qr Qx :=
  nw_aald hl p' hp (a := 104) (kk := 25) (n := 8) ⟨by decide, by decide +kernel⟩ (Or.inl rfl) hi (by unfold mw_rm0; rw [if_pos rfl, if_pos (by omega)]) h
theorem nw_putHP {len a' b d : Nat} {ps : List Nat} {y : MethodName} {k : Int32} {i : Int} {x m : Nat} (hl : mw_lk cd pc = some (.aastore, len, (a', b, d), ps, y, k)) (p' : Nat) (hp : pc + 1 = p') (hi : 0 ≤ i ∧ i < 8) (hx : x < 303 ∧ mw_kd0 x = some (12, m)) (h : NW sc cd D (p', ls, st, (M.1, M.2.1, nw_hW M.2.2 i.toNat x), c, sl) Qr Qx) : NW sc cd D (pc, ls, .inr (.inl (some x)) :: .inl i :: .inr (.inl (some 104)) :: st, M, c, sl) Qr Qx := by
  subst hp
  refine nw_gen hl fun ok => ?_
  obtain ⟨okM, okL, okS⟩ := ok
  have hr : nw_in i := okS _ (List.mem_cons_of_mem _ List.mem_cons_self)
  show mw_app (match (nw_m M).2.2.2.2.1 104, (nw_m M).2.2.2.2.1 x with | some (k, n), some (k', _) => if k = 25 ∧ k' = 12 then _ else _ | some (k, n), none => _ | _, _ => _) _ _
  rw [nw_kd (a := 104) (q := (25, 8)) ⟨by decide, by decide +kernel⟩, nw_kd hx]
  show mw_app (if 25 = 25 ∧ 12 = 12 then _ else _) _ _
  rw [if_pos ⟨rfl, rfl⟩]
  refine ⟨nw_vpin hr hi, (_, ls, st, (M.1, M.2.1, nw_hW M.2.2 i.toNat x), c, sl), ?_, ⟨okM, okL, fun v hv => okS v (List.mem_cons_of_mem _ (List.mem_cons_of_mem _ (List.mem_cons_of_mem _ hv)))⟩, h⟩
  refine congrArg (fun z => (pc + 1, nw_ls ls, st.map nw_v, ((nw_m M).1, (nw_m M).2.1, (nw_m M).2.2.1, z, (nw_m M).2.2.2.2), c, sl)) ?_
  rw [nw_cl hr]
  funext y k
  show (if y = 104 then (if k = i.toNat then some x else mw_rm0 M.2.2.2.1 M.2.2.2.2.1 y k) else mw_rm0 M.2.2.2.1 M.2.2.2.2.1 y k) = mw_rm0 (nw_hset M.2.2.2.1 i.toNat x) M.2.2.2.2.1 y k
  unfold mw_rm0 nw_hset
  by_cases e : y = 104
  · rw [e, if_pos rfl, if_pos rfl]
    by_cases e2 : k = i.toNat
    · rw [if_pos e2, if_pos rfl, if_pos (by omega), if_pos e2]
    · rw [if_neg e2, if_pos rfl, if_neg e2]
  · rw [if_neg e, if_neg e, if_neg e]
end

