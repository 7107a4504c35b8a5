/-! a row an instruction, over whole numbers -/
def nw_cat (v : nw_V) : Nat := match v with
  | .inr (.inr (.inl _)) => 2
  | .inr (.inr (.inr (.inl _))) => 2
  | _ => 1
def nw_cats : List nw_V → Nat
  | [] => 0
  | v :: r => nw_cat v + nw_cats r
theorem nw_cat_eq (v : nw_V) : (nw_v v).category = nw_cat v := by
  match v with
  | .inl x => rfl
  | .inr (.inl none) => rfl
  | .inr (.inl (some r)) => rfl
  | .inr (.inr (.inl x)) => rfl
  | .inr (.inr (.inr (.inl x))) => rfl
  | .inr (.inr (.inr (.inr x))) => rfl
theorem nw_cats_eq : ∀ st : List nw_V, mw_cats (st.map nw_v) = nw_cats st
  | [] => rfl
  | v :: r => by
    have e : mw_cats ((v :: r).map nw_v) = (nw_v v).category + mw_cats (r.map nw_v) := rfl
    rw [e, nw_cat_eq, nw_cats_eq r]
    rfl
abbrev nw_W : Type := (Nat → Int → UInt64) × (Nat → Nat) × Nat × (Nat → Option (Nat × Nat)) × Nat
/-- more places -/
def nw_top (W : nw_W) (n : Nat) : nw_W := (W.1, W.2.1, W.2.2.1, W.2.2.2.1, n)
theorem nw_inT (x : Int32) : nw_in x.toInt := ⟨by have := x.le_toInt; simpa using this, by have := x.toInt_lt; simpa using this⟩
theorem nw_nz {y : Int} (hy : nw_in y) (h : 0 < y) : ¬ Int32.ofInt y = 0 := fun e => by
  have := (nw_inj hy (y := 0) ⟨by decide, by decide⟩).mp e
  omega
theorem nw_divin {x y : Int} (hx : nw_in x) (h : 0 ≤ x ∧ 0 < y) : nw_in (x / y) := ⟨by have := Int.ediv_nonneg h.1 (Int.le_of_lt h.2); omega, by have := Int.ediv_le_self y h.1; omega⟩
theorem nw_modin {x y : Int} (hy : nw_in y) (h : 0 ≤ x ∧ 0 < y) : nw_in (x % y) := ⟨by have := Int.emod_nonneg x (show y ≠ 0 by omega); omega, by have := Int.emod_lt_of_pos x h.2; omega⟩
theorem nw_div {x y : Int} (hx : nw_in x) (hy : nw_in y) (h : 0 ≤ x ∧ 0 < y) : Int32.ofInt x / Int32.ofInt y = Int32.ofInt (x / y) := by
  rw [← Int.tdiv_eq_ediv_of_nonneg h.1]
  refine (Int32.ofInt_tdiv ?_ ?_ ?_ ?_).symm
  · show (-2147483648 : Int) ≤ x
    omega
  · show x ≤ (2147483647 : Int)
    omega
  · show (-2147483648 : Int) ≤ y
    omega
  · show y ≤ (2147483647 : Int)
    omega
theorem nw_mod {x y : Int} (hx : nw_in x) (hy : nw_in y) (h : 0 ≤ x ∧ 0 < y) : Int32.ofInt x - Int32.ofInt x / Int32.ofInt y * Int32.ofInt y = Int32.ofInt (x % y) := by
  rw [nw_div hx hy h, ← Int32.ofInt_mul, ← Int32.ofInt_sub]
  congr 1
  have := Int.emod_add_mul_ediv x y
  rw [Int.mul_comm (x / y) y]
  omega
theorem nw_chr (x : Int) : ((Int32.ofInt x).toUInt32 % 65536).toInt32 = Int32.ofInt (x % 65536) := by
  refine Int32.toInt_inj.mp ?_
  rw [nw_ti (x := x % 65536) ⟨by omega, by omega⟩]
  have h1 : ((Int32.ofInt x).toUInt32 % 65536).toNat = (x % 65536).toNat := by
    rw [UInt32.toNat_mod]
    show (BitVec.ofInt 32 x).toNat % 65536 = _
    rw [BitVec.toNat_ofInt]
    omega
  have h2 : (((Int32.ofInt x).toUInt32 % 65536).toInt32).toInt = ((((Int32.ofInt x).toUInt32 % 65536).toNat : Int)).bmod (2 ^ 32) := BitVec.toInt_eq_toNat_bmod _
  rw [h2, h1, show (((x % 65536).toNat : Nat) : Int) = x % 65536 by omega]
  exact Int.bmod_eq_of_le (by omega) (by omega)
theorem nw_narC {v : Int} (h : 0 ≤ v ∧ v < 65536) : vp_nar .char (Int32.ofInt v) = Int32.ofInt v := by
  show (Int32.ofInt v).toUInt32.toUInt16.toUInt32.toInt32 = Int32.ofInt v
  refine Int32.toInt_inj.mp ?_
  rw [nw_ti (x := v) ⟨by omega, by omega⟩]
  have h1 : ((Int32.ofInt v).toUInt32.toUInt16.toUInt32).toNat = v.toNat := by
    rw [UInt16.toNat_toUInt32, UInt32.toNat_toUInt16]
    show (BitVec.ofInt 32 v).toNat % _ = _
    rw [BitVec.toNat_ofInt]
    omega
  have h2 : ((Int32.ofInt v).toUInt32.toUInt16.toUInt32.toInt32).toInt = ((((Int32.ofInt v).toUInt32.toUInt16.toUInt32).toNat : Int)).bmod (2 ^ 32) := BitVec.toInt_eq_toNat_bmod _
  rw [h2, h1, show ((v.toNat : Nat) : Int) = v by omega]
  exact Int.bmod_eq_of_le (by omega) (by omega)
theorem nw_cmp3in (x y : Int) : nw_in (if x < y then -1 else if x = y then 0 else 1) := by
  split
  · exact ⟨by decide, by decide⟩
  · split
    · exact ⟨by decide, by decide⟩
    · exact ⟨by decide, by decide⟩
theorem nw_lcmpE {x y : Int} (hx : nw_il x) (hy : nw_il y) : lg_cmp (Int64.ofInt x) (Int64.ofInt y) = Int32.ofInt (if x < y then -1 else if x = y then 0 else 1) := by
  unfold lg_cmp
  have h1 : Int64.ofInt x > Int64.ofInt y ↔ y < x := by rw [gt_iff_lt, Int64.lt_iff_toInt_lt, nw_tl hx, nw_tl hy]
  have h2 : Int64.ofInt x = Int64.ofInt y ↔ x = y := ⟨fun h => by rw [← nw_tl hx, ← nw_tl hy, h], fun h => by rw [h]⟩
  by_cases a : y < x
  · rw [if_pos (h1.mpr a), if_neg (by omega), if_neg (by omega)]
    rfl
  · rw [if_neg (fun z => a (h1.mp z))]
    by_cases b : x = y
    · rw [if_pos (h2.mpr b), if_neg (by omega), if_pos b]
      rfl
    · rw [if_neg (fun z => b (h2.mp z)), if_pos (by omega)]
      rfl
def nw_hok (cd : mw_CD) : Bool := cd.2.2.2.2.2.all (fun h => Nat.blt h.2.2.2.1 100)
theorem nw_hsmall {cd : mw_CD} {pc e k : Nat} (hh : nw_hok cd = true) (h : mw_hfind cd.2.2.2.2.2 pc e = some k) : nw_in (k : Int) := by
  unfold nw_hok at hh
  revert hh h
  generalize cd.2.2.2.2.2 = l
  intro hh h
  induction l with
  | nil => cases h
  | cons a r ih =>
    rw [List.all_cons, Bool.and_eq_true] at hh
    unfold mw_hfind at h
    split at h
    · cases h
      have := Nat.blt_eq.mp hh.1
      exact ⟨by omega, by omega⟩
    · exact ih hh.2 h
section
variable {sc : Nat × (Nat → Int32)} {cd : mw_CD} {D pc : Nat} {ls : List (Option nw_V)} {st : List nw_V} {M : nw_Mem} {c sl : Nat} {Qr : nw_QR} {Qx : nw_QX}
theorem nw_iconst {w : Int} {len a b d : Nat} {ps : List Nat} {y : MethodName} {k : Int32} (hl : mw_lk cd pc = some (.iconst w, 1, (a, b, d), ps, y, k)) (p' : Nat) (hp : pc + 1 = p') {v : Int} (hv : Int32.ofInt v = k ∧ nw_in v) (h : NW sc cd D (p', ls, .inl v :: st, M, c, sl) Qr Qx) : NW sc cd D (pc, ls, st, M, c, sl) Qr Qx := by
  subst hp
  refine nw_gen hl fun ok => ?_
  obtain ⟨okM, okL, okS⟩ := ok
  refine ⟨(_, ls, .inl v :: st, M, c, sl), ?_, ⟨okM, okL, nw_okc hv.2 okS⟩, h⟩
  rw [← hv.1]
  rfl
theorem nw_bipush {w : Int} {len a b d : Nat} {ps : List Nat} {y : MethodName} {k : Int32} (hl : mw_lk cd pc = some (.bipush w, 2, (a, b, d), ps, y, k)) (p' : Nat) (hp : pc + 2 = p') {v : Int} (hv : Int32.ofInt v = k ∧ nw_in v) (h : NW sc cd D (p', ls, .inl v :: st, M, c, sl) Qr Qx) : NW sc cd D (pc, ls, st, M, c, sl) Qr Qx := by
  subst hp
  refine nw_gen hl fun ok => ?_
  obtain ⟨okM, okL, okS⟩ := ok
  refine ⟨(_, ls, .inl v :: st, M, c, sl), ?_, ⟨okM, okL, nw_okc hv.2 okS⟩, h⟩
  rw [← hv.1]
  rfl
theorem nw_sipush {w : Int} {len a b d : Nat} {ps : List Nat} {y : MethodName} {k : Int32} (hl : mw_lk cd pc = some (.sipush w, 3, (a, b, d), ps, y, k)) (p' : Nat) (hp : pc + 3 = p') {v : Int} (hv : Int32.ofInt v = k ∧ nw_in v) (h : NW sc cd D (p', ls, .inl v :: st, M, c, sl) Qr Qx) : NW sc cd D (pc, ls, st, M, c, sl) Qr Qx := by
  subst hp
  refine nw_gen hl fun ok => ?_
  obtain ⟨okM, okL, okS⟩ := ok
  refine ⟨(_, ls, .inl v :: st, M, c, sl), ?_, ⟨okM, okL, nw_okc hv.2 okS⟩, h⟩
  rw [← hv.1]
  rfl
theorem nw_ldc {w : Nat} {len a b d : Nat} {ps : List Nat} {y : MethodName} {k : Int32} (hl : mw_lk cd pc = some (.ldc w, 2, (a, b, d), ps, y, k)) (p' : Nat) (hp : pc + 2 = p') {v : Int} (hv : Int32.ofInt v = k ∧ nw_in v) (hz : ¬ a = 1 := by decide) (h : NW sc cd D (p', ls, .inl v :: st, M, c, sl) Qr Qx) : NW sc cd D (pc, ls, st, M, c, sl) Qr Qx := by
  subst hp
  refine nw_gen hl fun ok => ?_
  obtain ⟨okM, okL, okS⟩ := ok
  show mw_app (if a = 1 then _ else _) _ _
  rw [if_neg hz]
  refine ⟨(_, ls, .inl v :: st, M, c, sl), ?_, ⟨okM, okL, nw_okc hv.2 okS⟩, h⟩
  rw [← hv.1]
  rfl
theorem nw_lconst {w : Fin 2} {a b d len : Nat} {ps : List Nat} {y : MethodName} {k : Int32} (hl : mw_lk cd pc = some (.lconst w, len, (a, b, d), ps, y, k)) (p' : Nat) (hp : pc + 1 = p') {v : Int} (hv : Int64.ofInt v = Int64.ofNat w ∧ nw_il v) (h : NW sc cd D (p', ls, .inr (.inr (.inl v)) :: st, M, c, sl) Qr Qx) : NW sc cd D (pc, ls, st, M, c, sl) Qr Qx := by
  subst hp
  refine nw_gen hl fun ok => ?_
  obtain ⟨okM, okL, okS⟩ := ok
  refine ⟨(_, ls, .inr (.inr (.inl v)) :: st, M, c, sl), ?_, ⟨okM, okL, nw_okc hv.2 okS⟩, h⟩
  rw [show nw_f (pc + 1, ls, .inr (.inr (.inl v)) :: st, M, c, sl) = (pc + 1, nw_ls ls, .long (Int64.ofInt v) :: st.map nw_v, nw_m M, c, sl) from rfl, hv.1]

theorem nw_ldc2 {w a b d len : Nat} {ps : List Nat} {y : MethodName} {k : Int32} (hl : mw_lk cd pc = some (.ldc2_w w, len, (a, b, d), ps, y, k)) (p' : Nat) (hp : pc + 3 = p') {v : Int} (hv : Int64.ofInt v = k.toInt64 ∧ nw_il v) (hz : ¬ a = 1 := by decide) (h : NW sc cd D (p', ls, .inr (.inr (.inl v)) :: st, M, c, sl) Qr Qx) : NW sc cd D (pc, ls, st, M, c, sl) Qr Qx := by
  subst hp
  refine nw_gen hl fun ok => ?_
  obtain ⟨okM, okL, okS⟩ := ok
  show mw_app (if a = 1 then _ else _) _ _
  rw [if_neg hz]
  refine ⟨(_, ls, .inr (.inr (.inl v)) :: st, M, c, sl), ?_, ⟨okM, okL, nw_okc hv.2 okS⟩, h⟩
  rw [show nw_f (pc + 3, ls, .inr (.inr (.inl v)) :: st, M, c, sl) = (pc + 3, nw_ls ls, .long (Int64.ofInt v) :: st.map nw_v, nw_m M, c, sl) from rfl, hv.1]
theorem nw_dconst {a b d len : Nat} {ps : List Nat} {y : MethodName} {k : Int32} (hl : mw_lk cd pc = some (.dconst 0, len, (a, b, d), ps, y, k)) (p' : Nat) (hp : pc + 1 = p') (h : NW sc cd D (p', ls, .inr (.inr (.inr (.inl 0))) :: st, M, c, sl) Qr Qx) : NW sc cd D (pc, ls, st, M, c, sl) Qr Qx := by
  subst hp
  refine nw_gen hl fun ok => ?_
  obtain ⟨okM, okL, okS⟩ := ok
  exact ⟨(_, ls, .inr (.inr (.inr (.inl 0))) :: st, M, c, sl), rfl, ⟨okM, okL, nw_okc True.intro okS⟩, h⟩
theorem nw_fconst {a b d len : Nat} {ps : List Nat} {y : MethodName} {k : Int32} (hl : mw_lk cd pc = some (.fconst 0, len, (a, b, d), ps, y, k)) (p' : Nat) (hp : pc + 1 = p') (h : NW sc cd D (p', ls, .inr (.inr (.inr (.inr 0))) :: st, M, c, sl) Qr Qx) : NW sc cd D (pc, ls, st, M, c, sl) Qr Qx := by
  subst hp
  refine nw_gen hl fun ok => ?_
  obtain ⟨okM, okL, okS⟩ := ok
  exact ⟨(_, ls, .inr (.inr (.inr (.inr 0))) :: st, M, c, sl), rfl, ⟨okM, okL, nw_okc True.intro okS⟩, h⟩

theorem nw_iload_n {n : Fin 4} {i a b len : Nat} {ps : List Nat} {y : MethodName} {k : Int32} {x : Int} (hl : mw_lk cd pc = some (.iload_n n, len, (i, a, b), ps, y, k)) (p' : Nat) (hp : pc + len = p') (hx : ls[i]? = some (some (.inl x))) (h : NW sc cd D (p', ls, .inl x :: st, M, c, sl) Qr Qx) : NW sc cd D (pc, ls, st, M, c, sl) Qr Qx := by
  subst hp
  refine nw_gen hl fun ok => ?_
  obtain ⟨okM, okL, okS⟩ := ok
  have e : mw_ld (nw_ls ls) i = some (.int (Int32.ofInt x)) := nw_lsat hx
  show mw_app (match mw_ld (nw_ls ls) i with | some (.int x) => _ | _ => _) _ _
  rw [e]
  exact ⟨(_, ls, .inl x :: st, M, c, sl), rfl, ⟨okM, okL, nw_okc (nw_atok hx okL) okS⟩, h⟩

theorem nw_istore_n {n : Fin 4} {i a b len : Nat} {ps : List Nat} {y : MethodName} {k : Int32} {x : Int} (hl : mw_lk cd pc = some (.istore_n n, len, (i, a, b), ps, y, k)) (p' : Nat) (hp : pc + len = p') (ho : nw_ok1 ls i = true) {ls' : List (Option nw_V)} (hs : ls.set i (some (.inl x)) = ls') (h : NW sc cd D (p', ls', st, M, c, sl) Qr Qx) : NW sc cd D (pc, ls, .inl x :: st, M, c, sl) Qr Qx := by
  subst hp
  subst hs
  refine nw_gen hl fun ok => ?_
  obtain ⟨okM, okL, okS⟩ := ok
  show mw_app (if mw_ok1 (nw_ls ls) i = true then _ else _) _ _
  rw [if_pos ho]
  refine ⟨(_, ls.set i (some (.inl x)), st, M, c, sl), ?_, ⟨okM, nw_oks (okS _ List.mem_cons_self) okL, fun v hv => okS v (List.mem_cons_of_mem _ hv)⟩, h⟩
  exact congrArg (fun z => (pc + len, z, st.map nw_v, nw_m M, c, sl)) (nw_lset (v := .inl x))

theorem nw_iload {n : Nat} {i a b len : Nat} {ps : List Nat} {y : MethodName} {k : Int32} {x : Int} (hl : mw_lk cd pc = some (.iload n, len, (i, a, b), ps, y, k)) (p' : Nat) (hp : pc + len = p') (hx : ls[i]? = some (some (.inl x))) (h : NW sc cd D (p', ls, .inl x :: st, M, c, sl) Qr Qx) : NW sc cd D (pc, ls, st, M, c, sl) Qr Qx := by
  subst hp
  refine nw_gen hl fun ok => ?_
  obtain ⟨okM, okL, okS⟩ := ok
  have e : mw_ld (nw_ls ls) i = some (.int (Int32.ofInt x)) := nw_lsat hx
  show mw_app (match mw_ld (nw_ls ls) i with | some (.int x) => _ | _ => _) _ _
  rw [e]
  exact ⟨(_, ls, .inl x :: st, M, c, sl), rfl, ⟨okM, okL, nw_okc (nw_atok hx okL) okS⟩, h⟩

theorem nw_istore {n : Nat} {i a b len : Nat} {ps : List Nat} {y : MethodName} {k : Int32} {x : Int} (hl : mw_lk cd pc = some (.istore n, len, (i, a, b), ps, y, k)) (p' : Nat) (hp : pc + len = p') (ho : nw_ok1 ls i = true) {ls' : List (Option nw_V)} (hs : ls.set i (some (.inl x)) = ls') (h : NW sc cd D (p', ls', st, M, c, sl) Qr Qx) : NW sc cd D (pc, ls, .inl x :: st, M, c, sl) Qr Qx := by
  subst hp
  subst hs
  refine nw_gen hl fun ok => ?_
  obtain ⟨okM, okL, okS⟩ := ok
  show mw_app (if mw_ok1 (nw_ls ls) i = true then _ else _) _ _
  rw [if_pos ho]
  refine ⟨(_, ls.set i (some (.inl x)), st, M, c, sl), ?_, ⟨okM, nw_oks (okS _ List.mem_cons_self) okL, fun v hv => okS v (List.mem_cons_of_mem _ hv)⟩, h⟩
  exact congrArg (fun z => (pc + len, z, st.map nw_v, nw_m M, c, sl)) (nw_lset (v := .inl x))

theorem nw_aload_n {n : Fin 4} {i a b len : Nat} {ps : List Nat} {y : MethodName} {k : Int32} {x : Nat} (hl : mw_lk cd pc = some (.aload_n n, len, (i, a, b), ps, y, k)) (p' : Nat) (hp : pc + len = p') (hx : ls[i]? = some (some (.inr (.inl (some x))))) (h : NW sc cd D (p', ls, .inr (.inl (some x)) :: st, M, c, sl) Qr Qx) : NW sc cd D (pc, ls, st, M, c, sl) Qr Qx := by
  subst hp
  refine nw_gen hl fun ok => ?_
  obtain ⟨okM, okL, okS⟩ := ok
  have e : mw_ld (nw_ls ls) i = some (.ref x) := nw_lsat hx
  show mw_app (match mw_ld (nw_ls ls) i with | some (.ref x) => _ | _ => _) _ _
  rw [e]
  exact ⟨(_, ls, .inr (.inl (some x)) :: st, M, c, sl), rfl, ⟨okM, okL, nw_okc (nw_atok hx okL) okS⟩, h⟩

theorem nw_astore_n {n : Fin 4} {i a b len : Nat} {ps : List Nat} {y : MethodName} {k : Int32} {x : Nat} (hl : mw_lk cd pc = some (.astore_n n, len, (i, a, b), ps, y, k)) (p' : Nat) (hp : pc + len = p') (ho : nw_ok1 ls i = true) {ls' : List (Option nw_V)} (hs : ls.set i (some (.inr (.inl (some x)))) = ls') (h : NW sc cd D (p', ls', st, M, c, sl) Qr Qx) : NW sc cd D (pc, ls, .inr (.inl (some x)) :: st, M, c, sl) Qr Qx := by
  subst hp
  subst hs
  refine nw_gen hl fun ok => ?_
  obtain ⟨okM, okL, okS⟩ := ok
  show mw_app (if mw_ok1 (nw_ls ls) i = true then _ else _) _ _
  rw [if_pos ho]
  refine ⟨(_, ls.set i (some (.inr (.inl (some x)))), st, M, c, sl), ?_, ⟨okM, nw_oks (okS _ List.mem_cons_self) okL, fun v hv => okS v (List.mem_cons_of_mem _ hv)⟩, h⟩
  exact congrArg (fun z => (pc + len, z, st.map nw_v, nw_m M, c, sl)) (nw_lset (v := .inr (.inl (some x))))

theorem nw_aload {n : Nat} {i a b len : Nat} {ps : List Nat} {y : MethodName} {k : Int32} {x : Nat} (hl : mw_lk cd pc = some (.aload n, len, (i, a, b), ps, y, k)) (p' : Nat) (hp : pc + len = p') (hx : ls[i]? = some (some (.inr (.inl (some x))))) (h : NW sc cd D (p', ls, .inr (.inl (some x)) :: st, M, c, sl) Qr Qx) : NW sc cd D (pc, ls, st, M, c, sl) Qr Qx := by
  subst hp
  refine nw_gen hl fun ok => ?_
  obtain ⟨okM, okL, okS⟩ := ok
  have e : mw_ld (nw_ls ls) i = some (.ref x) := nw_lsat hx
  show mw_app (match mw_ld (nw_ls ls) i with | some (.ref x) => _ | _ => _) _ _
  rw [e]
  exact ⟨(_, ls, .inr (.inl (some x)) :: st, M, c, sl), rfl, ⟨okM, okL, nw_okc (nw_atok hx okL) okS⟩, h⟩

theorem nw_astore {n : Nat} {i a b len : Nat} {ps : List Nat} {y : MethodName} {k : Int32} {x : Nat} (hl : mw_lk cd pc = some (.astore n, len, (i, a, b), ps, y, k)) (p' : Nat) (hp : pc + len = p') (ho : nw_ok1 ls i = true) {ls' : List (Option nw_V)} (hs : ls.set i (some (.inr (.inl (some x)))) = ls') (h : NW sc cd D (p', ls', st, M, c, sl) Qr Qx) : NW sc cd D (pc, ls, .inr (.inl (some x)) :: st, M, c, sl) Qr Qx := by
  subst hp
  subst hs
  refine nw_gen hl fun ok => ?_
  obtain ⟨okM, okL, okS⟩ := ok
  show mw_app (if mw_ok1 (nw_ls ls) i = true then _ else _) _ _
  rw [if_pos ho]
  refine ⟨(_, ls.set i (some (.inr (.inl (some x)))), st, M, c, sl), ?_, ⟨okM, nw_oks (okS _ List.mem_cons_self) okL, fun v hv => okS v (List.mem_cons_of_mem _ hv)⟩, h⟩
  exact congrArg (fun z => (pc + len, z, st.map nw_v, nw_m M, c, sl)) (nw_lset (v := .inr (.inl (some x))))

theorem nw_fload_n {n : Fin 4} {i a b len : Nat} {ps : List Nat} {y : MethodName} {k : Int32} {x : UInt32} (hl : mw_lk cd pc = some (.fload_n n, len, (i, a, b), ps, y, k)) (p' : Nat) (hp : pc + len = p') (hx : ls[i]? = some (some (.inr (.inr (.inr (.inr x)))))) (h : NW sc cd D (p', ls, .inr (.inr (.inr (.inr x))) :: st, M, c, sl) Qr Qx) : NW sc cd D (pc, ls, st, M, c, sl) Qr Qx := by
  subst hp
  refine nw_gen hl fun ok => ?_
  obtain ⟨okM, okL, okS⟩ := ok
  have e : mw_ld (nw_ls ls) i = some (.float x) := nw_lsat hx
  show mw_app (match mw_ld (nw_ls ls) i with | some (.float x) => _ | _ => _) _ _
  rw [e]
  exact ⟨(_, ls, .inr (.inr (.inr (.inr x))) :: st, M, c, sl), rfl, ⟨okM, okL, nw_okc (nw_atok hx okL) okS⟩, h⟩

theorem nw_fstore_n {n : Fin 4} {i a b len : Nat} {ps : List Nat} {y : MethodName} {k : Int32} {x : UInt32} (hl : mw_lk cd pc = some (.fstore_n n, len, (i, a, b), ps, y, k)) (p' : Nat) (hp : pc + len = p') (ho : nw_ok1 ls i = true) {ls' : List (Option nw_V)} (hs : ls.set i (some (.inr (.inr (.inr (.inr x))))) = ls') (h : NW sc cd D (p', ls', st, M, c, sl) Qr Qx) : NW sc cd D (pc, ls, .inr (.inr (.inr (.inr x))) :: st, M, c, sl) Qr Qx := by
  subst hp
  subst hs
  refine nw_gen hl fun ok => ?_
  obtain ⟨okM, okL, okS⟩ := ok
  show mw_app (if mw_ok1 (nw_ls ls) i = true then _ else _) _ _
  rw [if_pos ho]
  refine ⟨(_, ls.set i (some (.inr (.inr (.inr (.inr x))))), st, M, c, sl), ?_, ⟨okM, nw_oks (okS _ List.mem_cons_self) okL, fun v hv => okS v (List.mem_cons_of_mem _ hv)⟩, h⟩
  exact congrArg (fun z => (pc + len, z, st.map nw_v, nw_m M, c, sl)) (nw_lset (v := .inr (.inr (.inr (.inr x)))))

theorem nw_fload {n : Nat} {i a b len : Nat} {ps : List Nat} {y : MethodName} {k : Int32} {x : UInt32} (hl : mw_lk cd pc = some (.fload n, len, (i, a, b), ps, y, k)) (p' : Nat) (hp : pc + len = p') (hx : ls[i]? = some (some (.inr (.inr (.inr (.inr x)))))) (h : NW sc cd D (p', ls, .inr (.inr (.inr (.inr x))) :: st, M, c, sl) Qr Qx) : NW sc cd D (pc, ls, st, M, c, sl) Qr Qx := by
  subst hp
  refine nw_gen hl fun ok => ?_
  obtain ⟨okM, okL, okS⟩ := ok
  have e : mw_ld (nw_ls ls) i = some (.float x) := nw_lsat hx
  show mw_app (match mw_ld (nw_ls ls) i with | some (.float x) => _ | _ => _) _ _
  rw [e]
  exact ⟨(_, ls, .inr (.inr (.inr (.inr x))) :: st, M, c, sl), rfl, ⟨okM, okL, nw_okc (nw_atok hx okL) okS⟩, h⟩

theorem nw_fstore {n : Nat} {i a b len : Nat} {ps : List Nat} {y : MethodName} {k : Int32} {x : UInt32} (hl : mw_lk cd pc = some (.fstore n, len, (i, a, b), ps, y, k)) (p' : Nat) (hp : pc + len = p') (ho : nw_ok1 ls i = true) {ls' : List (Option nw_V)} (hs : ls.set i (some (.inr (.inr (.inr (.inr x))))) = ls') (h : NW sc cd D (p', ls', st, M, c, sl) Qr Qx) : NW sc cd D (pc, ls, .inr (.inr (.inr (.inr x))) :: st, M, c, sl) Qr Qx := by
  subst hp
  subst hs
  refine nw_gen hl fun ok => ?_
  obtain ⟨okM, okL, okS⟩ := ok
  show mw_app (if mw_ok1 (nw_ls ls) i = true then _ else _) _ _
  rw [if_pos ho]
  refine ⟨(_, ls.set i (some (.inr (.inr (.inr (.inr x))))), st, M, c, sl), ?_, ⟨okM, nw_oks (okS _ List.mem_cons_self) okL, fun v hv => okS v (List.mem_cons_of_mem _ hv)⟩, h⟩
  exact congrArg (fun z => (pc + len, z, st.map nw_v, nw_m M, c, sl)) (nw_lset (v := .inr (.inr (.inr (.inr x)))))

theorem nw_dload_n {n : Fin 4} {i a b len : Nat} {ps : List Nat} {y : MethodName} {k : Int32} {x : UInt64} (hl : mw_lk cd pc = some (.dload_n n, len, (i, a, b), ps, y, k)) (p' : Nat) (hp : pc + len = p') (hx : ls[i]? = some (some (.inr (.inr (.inr (.inl x)))))) (h : NW sc cd D (p', ls, .inr (.inr (.inr (.inl x))) :: st, M, c, sl) Qr Qx) : NW sc cd D (pc, ls, st, M, c, sl) Qr Qx := by
  subst hp
  refine nw_gen hl fun ok => ?_
  obtain ⟨okM, okL, okS⟩ := ok
  have e : mw_ld (nw_ls ls) i = some (.double x) := nw_lsat hx
  show mw_app (match mw_ld (nw_ls ls) i with | some (.double x) => _ | _ => _) _ _
  rw [e]
  exact ⟨(_, ls, .inr (.inr (.inr (.inl x))) :: st, M, c, sl), rfl, ⟨okM, okL, nw_okc (nw_atok hx okL) okS⟩, h⟩

theorem nw_dstore_n {n : Fin 4} {i a b len : Nat} {ps : List Nat} {y : MethodName} {k : Int32} {x : UInt64} (hl : mw_lk cd pc = some (.dstore_n n, len, (i, a, b), ps, y, k)) (p' : Nat) (hp : pc + len = p') (ho : nw_ok1 ls i = true ∧ i + 1 < ls.length) {ls' : List (Option nw_V)} (hs : (ls.set i (some (.inr (.inr (.inr (.inl x)))))).set (i + 1) none = ls') (h : NW sc cd D (p', ls', st, M, c, sl) Qr Qx) : NW sc cd D (pc, ls, .inr (.inr (.inr (.inl x))) :: st, M, c, sl) Qr Qx := by
  subst hp
  subst hs
  refine nw_gen hl fun ok => ?_
  obtain ⟨okM, okL, okS⟩ := ok
  show mw_app (if mw_ok1 (nw_ls ls) i = true ∧ i + 1 < (nw_ls ls).length then _ else _) _ _
  rw [if_pos ⟨ho.1, by unfold nw_ls; rw [List.length_map]; exact ho.2⟩]
  refine ⟨(_, (ls.set i (some (.inr (.inr (.inr (.inl x)))))).set (i + 1) none, st, M, c, sl), ?_, ⟨okM, ?_, fun v hv => okS v (List.mem_cons_of_mem _ hv)⟩, h⟩
  · refine congrArg (fun z => (pc + len, z, st.map nw_v, nw_m M, c, sl)) ?_
    show ((nw_ls ls).set i (some (nw_v (.inr (.inr (.inr (.inl x))))))).set (i + 1) none = _
    rw [nw_lset]
    show (nw_ls _).set (i + 1) none = nw_ls _
    unfold nw_ls
    simp only [List.map_set]
    rfl
  · intro w hw
    rcases List.mem_or_eq_of_mem_set hw with hw | hw
    · exact nw_oks (v := .inr (.inr (.inr (.inl x)))) True.intro okL w hw
    · cases hw

theorem nw_dload {n : Nat} {i a b len : Nat} {ps : List Nat} {y : MethodName} {k : Int32} {x : UInt64} (hl : mw_lk cd pc = some (.dload n, len, (i, a, b), ps, y, k)) (p' : Nat) (hp : pc + len = p') (hx : ls[i]? = some (some (.inr (.inr (.inr (.inl x)))))) (h : NW sc cd D (p', ls, .inr (.inr (.inr (.inl x))) :: st, M, c, sl) Qr Qx) : NW sc cd D (pc, ls, st, M, c, sl) Qr Qx := by
  subst hp
  refine nw_gen hl fun ok => ?_
  obtain ⟨okM, okL, okS⟩ := ok
  have e : mw_ld (nw_ls ls) i = some (.double x) := nw_lsat hx
  show mw_app (match mw_ld (nw_ls ls) i with | some (.double x) => _ | _ => _) _ _
  rw [e]
  exact ⟨(_, ls, .inr (.inr (.inr (.inl x))) :: st, M, c, sl), rfl, ⟨okM, okL, nw_okc (nw_atok hx okL) okS⟩, h⟩

theorem nw_dstore {n : Nat} {i a b len : Nat} {ps : List Nat} {y : MethodName} {k : Int32} {x : UInt64} (hl : mw_lk cd pc = some (.dstore n, len, (i, a, b), ps, y, k)) (p' : Nat) (hp : pc + len = p') (ho : nw_ok1 ls i = true ∧ i + 1 < ls.length) {ls' : List (Option nw_V)} (hs : (ls.set i (some (.inr (.inr (.inr (.inl x)))))).set (i + 1) none = ls') (h : NW sc cd D (p', ls', st, M, c, sl) Qr Qx) : NW sc cd D (pc, ls, .inr (.inr (.inr (.inl x))) :: st, M, c, sl) Qr Qx := by
  subst hp
  subst hs
  refine nw_gen hl fun ok => ?_
  obtain ⟨okM, okL, okS⟩ := ok
  show mw_app (if mw_ok1 (nw_ls ls) i = true ∧ i + 1 < (nw_ls ls).length then _ else _) _ _
  rw [if_pos ⟨ho.1, by unfold nw_ls; rw [List.length_map]; exact ho.2⟩]
  refine ⟨(_, (ls.set i (some (.inr (.inr (.inr (.inl x)))))).set (i + 1) none, st, M, c, sl), ?_, ⟨okM, ?_, fun v hv => okS v (List.mem_cons_of_mem _ hv)⟩, h⟩
  · refine congrArg (fun z => (pc + len, z, st.map nw_v, nw_m M, c, sl)) ?_
    show ((nw_ls ls).set i (some (nw_v (.inr (.inr (.inr (.inl x))))))).set (i + 1) none = _
    rw [nw_lset]
    show (nw_ls _).set (i + 1) none = nw_ls _
    unfold nw_ls
    simp only [List.map_set]
    rfl
  · intro w hw
    rcases List.mem_or_eq_of_mem_set hw with hw | hw
    · exact nw_oks (v := .inr (.inr (.inr (.inl x)))) True.intro okL w hw
    · cases hw

theorem nw_iinc {n : Nat} {m : Int} {i a b len : Nat} {ps : List Nat} {y : MethodName} {k : Int32} {x : Int} (hl : mw_lk cd pc = some (.iinc n m, len, (i, a, b), ps, y, k)) (p' : Nat) (hp : pc + 3 = p') (v : Int) (hv : Int32.ofInt v = k) (hx : ls[i]? = some (some (.inl x))) (ho : nw_ok1 ls i = true) (hr : nw_in (x + v)) {ls' : List (Option nw_V)} (hs : ls.set i (some (.inl (x + v))) = ls') (h : NW sc cd D (p', ls', st, M, c, sl) Qr Qx) : NW sc cd D (pc, ls, st, M, c, sl) Qr Qx := by
  subst hp
  subst hs
  refine nw_gen hl fun ok => ?_
  obtain ⟨okM, okL, okS⟩ := ok
  have e : mw_ld (nw_ls ls) i = some (.int (Int32.ofInt x)) := nw_lsat hx
  show mw_app (match mw_ld (nw_ls ls) i with | some (.int x) => if mw_ok1 (nw_ls ls) i = true then _ else _ | _ => _) _ _
  rw [e]
  show mw_app (if mw_ok1 (nw_ls ls) i = true then _ else _) _ _
  rw [if_pos ho, ← hv, ← Int32.ofInt_add]
  refine ⟨(_, ls.set i (some (.inl (x + v))), st, M, c, sl), ?_, ⟨okM, nw_oks hr okL, okS⟩, h⟩
  exact congrArg (fun z => (pc + 3, z, st.map nw_v, nw_m M, c, sl)) (nw_lset (v := .inl (x + v)))

theorem nw_iadd {len a b d : Nat} {ps : List Nat} {y' : MethodName} {k : Int32} {x y : Int} (hl : mw_lk cd pc = some (.iadd, len, (a, b, d), ps, y', k)) (p' : Nat) (hp : pc + 1 = p') (hr : nw_in (x + y)) (h : NW sc cd D (p', ls, .inl (x + y) :: st, M, c, sl) Qr Qx) : NW sc cd D (pc, ls, .inl y :: .inl x :: st, M, c, sl) Qr Qx := by
  subst hp
  refine nw_gen hl fun ok => ?_
  obtain ⟨okM, okL, okS⟩ := ok
  refine ⟨(_, ls, .inl (x + y) :: st, M, c, sl), ?_, ⟨okM, okL, nw_okc hr fun v hv => okS v (List.mem_cons_of_mem _ (List.mem_cons_of_mem _ hv))⟩, h⟩
  exact congrArg (fun z => (pc + 1, nw_ls ls, Value.int z :: st.map nw_v, nw_m M, c, sl)) (Int32.ofInt_add x y).symm

theorem nw_isub {len a b d : Nat} {ps : List Nat} {y' : MethodName} {k : Int32} {x y : Int} (hl : mw_lk cd pc = some (.isub, len, (a, b, d), ps, y', k)) (p' : Nat) (hp : pc + 1 = p') (hr : nw_in (x - y)) (h : NW sc cd D (p', ls, .inl (x - y) :: st, M, c, sl) Qr Qx) : NW sc cd D (pc, ls, .inl y :: .inl x :: st, M, c, sl) Qr Qx := by
  subst hp
  refine nw_gen hl fun ok => ?_
  obtain ⟨okM, okL, okS⟩ := ok
  refine ⟨(_, ls, .inl (x - y) :: st, M, c, sl), ?_, ⟨okM, okL, nw_okc hr fun v hv => okS v (List.mem_cons_of_mem _ (List.mem_cons_of_mem _ hv))⟩, h⟩
  exact congrArg (fun z => (pc + 1, nw_ls ls, Value.int z :: st.map nw_v, nw_m M, c, sl)) (Int32.ofInt_sub x y).symm

theorem nw_imul {len a b d : Nat} {ps : List Nat} {y' : MethodName} {k : Int32} {x y : Int} (hl : mw_lk cd pc = some (.imul, len, (a, b, d), ps, y', k)) (p' : Nat) (hp : pc + 1 = p') (hr : nw_in (x * y)) (h : NW sc cd D (p', ls, .inl (x * y) :: st, M, c, sl) Qr Qx) : NW sc cd D (pc, ls, .inl y :: .inl x :: st, M, c, sl) Qr Qx := by
  subst hp
  refine nw_gen hl fun ok => ?_
  obtain ⟨okM, okL, okS⟩ := ok
  refine ⟨(_, ls, .inl (x * y) :: st, M, c, sl), ?_, ⟨okM, okL, nw_okc hr fun v hv => okS v (List.mem_cons_of_mem _ (List.mem_cons_of_mem _ hv))⟩, h⟩
  exact congrArg (fun z => (pc + 1, nw_ls ls, Value.int z :: st.map nw_v, nw_m M, c, sl)) (Int32.ofInt_mul x y).symm

theorem nw_ladd {len a b d : Nat} {ps : List Nat} {y' : MethodName} {k : Int32} {x y : Int} (hl : mw_lk cd pc = some (.ladd, len, (a, b, d), ps, y', k)) (p' : Nat) (hp : pc + 1 = p') (hr : nw_il (x + y)) (h : NW sc cd D (p', ls, .inr (.inr (.inl (x + y))) :: st, M, c, sl) Qr Qx) : NW sc cd D (pc, ls, .inr (.inr (.inl y)) :: .inr (.inr (.inl x)) :: st, M, c, sl) Qr Qx := by
  subst hp
  refine nw_gen hl fun ok => ?_
  obtain ⟨okM, okL, okS⟩ := ok
  refine ⟨(_, ls, .inr (.inr (.inl (x + y))) :: st, M, c, sl), ?_, ⟨okM, okL, nw_okc hr fun v hv => okS v (List.mem_cons_of_mem _ (List.mem_cons_of_mem _ hv))⟩, h⟩
  exact congrArg (fun z => (pc + 1, nw_ls ls, Value.long z :: st.map nw_v, nw_m M, c, sl)) (Int64.ofInt_add x y).symm

theorem nw_lsub {len a b d : Nat} {ps : List Nat} {y' : MethodName} {k : Int32} {x y : Int} (hl : mw_lk cd pc = some (.lsub, len, (a, b, d), ps, y', k)) (p' : Nat) (hp : pc + 1 = p') (hr : nw_il (x - y)) (h : NW sc cd D (p', ls, .inr (.inr (.inl (x - y))) :: st, M, c, sl) Qr Qx) : NW sc cd D (pc, ls, .inr (.inr (.inl y)) :: .inr (.inr (.inl x)) :: st, M, c, sl) Qr Qx := by
  subst hp
  refine nw_gen hl fun ok => ?_
  obtain ⟨okM, okL, okS⟩ := ok
  refine ⟨(_, ls, .inr (.inr (.inl (x - y))) :: st, M, c, sl), ?_, ⟨okM, okL, nw_okc hr fun v hv => okS v (List.mem_cons_of_mem _ (List.mem_cons_of_mem _ hv))⟩, h⟩
  exact congrArg (fun z => (pc + 1, nw_ls ls, Value.long z :: st.map nw_v, nw_m M, c, sl)) (Int64.ofInt_sub x y).symm

theorem nw_lmul {len a b d : Nat} {ps : List Nat} {y' : MethodName} {k : Int32} {x y : Int} (hl : mw_lk cd pc = some (.lmul, len, (a, b, d), ps, y', k)) (p' : Nat) (hp : pc + 1 = p') (hr : nw_il (x * y)) (h : NW sc cd D (p', ls, .inr (.inr (.inl (x * y))) :: st, M, c, sl) Qr Qx) : NW sc cd D (pc, ls, .inr (.inr (.inl y)) :: .inr (.inr (.inl x)) :: st, M, c, sl) Qr Qx := by
  subst hp
  refine nw_gen hl fun ok => ?_
  obtain ⟨okM, okL, okS⟩ := ok
  refine ⟨(_, ls, .inr (.inr (.inl (x * y))) :: st, M, c, sl), ?_, ⟨okM, okL, nw_okc hr fun v hv => okS v (List.mem_cons_of_mem _ (List.mem_cons_of_mem _ hv))⟩, h⟩
  exact congrArg (fun z => (pc + 1, nw_ls ls, Value.long z :: st.map nw_v, nw_m M, c, sl)) (Int64.ofInt_mul x y).symm

def nw_xiand (x y : Int) : Int := (Int32.ofInt x &&& Int32.ofInt y).toInt
theorem nw_iand {len a b d : Nat} {ps : List Nat} {y' : MethodName} {k : Int32} {x y : Int} (hl : mw_lk cd pc = some (.iand, len, (a, b, d), ps, y', k)) (p' : Nat) (hp : pc + 1 = p') (h : NW sc cd D (p', ls, .inl (nw_xiand x y) :: st, M, c, sl) Qr Qx) : NW sc cd D (pc, ls, .inl y :: .inl x :: st, M, c, sl) Qr Qx := by
  subst hp
  refine nw_gen hl fun ok => ?_
  obtain ⟨okM, okL, okS⟩ := ok
  refine ⟨(_, ls, .inl (nw_xiand x y) :: st, M, c, sl), ?_, ⟨okM, okL, nw_okc (nw_inT _) fun v hv => okS v (List.mem_cons_of_mem _ (List.mem_cons_of_mem _ hv))⟩, h⟩
  exact congrArg (fun z => (pc + 1, nw_ls ls, Value.int z :: st.map nw_v, nw_m M, c, sl)) (Int32.ofInt_toInt _).symm

def nw_xior (x y : Int) : Int := (Int32.ofInt x ||| Int32.ofInt y).toInt
theorem nw_ior {len a b d : Nat} {ps : List Nat} {y' : MethodName} {k : Int32} {x y : Int} (hl : mw_lk cd pc = some (.ior, len, (a, b, d), ps, y', k)) (p' : Nat) (hp : pc + 1 = p') (h : NW sc cd D (p', ls, .inl (nw_xior x y) :: st, M, c, sl) Qr Qx) : NW sc cd D (pc, ls, .inl y :: .inl x :: st, M, c, sl) Qr Qx := by
  subst hp
  refine nw_gen hl fun ok => ?_
  obtain ⟨okM, okL, okS⟩ := ok
  refine ⟨(_, ls, .inl (nw_xior x y) :: st, M, c, sl), ?_, ⟨okM, okL, nw_okc (nw_inT _) fun v hv => okS v (List.mem_cons_of_mem _ (List.mem_cons_of_mem _ hv))⟩, h⟩
  exact congrArg (fun z => (pc + 1, nw_ls ls, Value.int z :: st.map nw_v, nw_m M, c, sl)) (Int32.ofInt_toInt _).symm

def nw_xixor (x y : Int) : Int := (Int32.ofInt x ^^^ Int32.ofInt y).toInt
theorem nw_ixor {len a b d : Nat} {ps : List Nat} {y' : MethodName} {k : Int32} {x y : Int} (hl : mw_lk cd pc = some (.ixor, len, (a, b, d), ps, y', k)) (p' : Nat) (hp : pc + 1 = p') (h : NW sc cd D (p', ls, .inl (nw_xixor x y) :: st, M, c, sl) Qr Qx) : NW sc cd D (pc, ls, .inl y :: .inl x :: st, M, c, sl) Qr Qx := by
  subst hp
  refine nw_gen hl fun ok => ?_
  obtain ⟨okM, okL, okS⟩ := ok
  refine ⟨(_, ls, .inl (nw_xixor x y) :: st, M, c, sl), ?_, ⟨okM, okL, nw_okc (nw_inT _) fun v hv => okS v (List.mem_cons_of_mem _ (List.mem_cons_of_mem _ hv))⟩, h⟩
  exact congrArg (fun z => (pc + 1, nw_ls ls, Value.int z :: st.map nw_v, nw_m M, c, sl)) (Int32.ofInt_toInt _).symm

def nw_xishl (x y : Int) : Int := (Int32.ofInt x <<< (Int32.ofInt y &&& 31)).toInt
theorem nw_ishl {len a b d : Nat} {ps : List Nat} {y' : MethodName} {k : Int32} {x y : Int} (hl : mw_lk cd pc = some (.ishl, len, (a, b, d), ps, y', k)) (p' : Nat) (hp : pc + 1 = p') (h : NW sc cd D (p', ls, .inl (nw_xishl x y) :: st, M, c, sl) Qr Qx) : NW sc cd D (pc, ls, .inl y :: .inl x :: st, M, c, sl) Qr Qx := by
  subst hp
  refine nw_gen hl fun ok => ?_
  obtain ⟨okM, okL, okS⟩ := ok
  refine ⟨(_, ls, .inl (nw_xishl x y) :: st, M, c, sl), ?_, ⟨okM, okL, nw_okc (nw_inT _) fun v hv => okS v (List.mem_cons_of_mem _ (List.mem_cons_of_mem _ hv))⟩, h⟩
  exact congrArg (fun z => (pc + 1, nw_ls ls, Value.int z :: st.map nw_v, nw_m M, c, sl)) (Int32.ofInt_toInt _).symm

def nw_xishr (x y : Int) : Int := (Int32.ofInt x >>> (Int32.ofInt y &&& 31)).toInt
theorem nw_ishr {len a b d : Nat} {ps : List Nat} {y' : MethodName} {k : Int32} {x y : Int} (hl : mw_lk cd pc = some (.ishr, len, (a, b, d), ps, y', k)) (p' : Nat) (hp : pc + 1 = p') (h : NW sc cd D (p', ls, .inl (nw_xishr x y) :: st, M, c, sl) Qr Qx) : NW sc cd D (pc, ls, .inl y :: .inl x :: st, M, c, sl) Qr Qx := by
  subst hp
  refine nw_gen hl fun ok => ?_
  obtain ⟨okM, okL, okS⟩ := ok
  refine ⟨(_, ls, .inl (nw_xishr x y) :: st, M, c, sl), ?_, ⟨okM, okL, nw_okc (nw_inT _) fun v hv => okS v (List.mem_cons_of_mem _ (List.mem_cons_of_mem _ hv))⟩, h⟩
  exact congrArg (fun z => (pc + 1, nw_ls ls, Value.int z :: st.map nw_v, nw_m M, c, sl)) (Int32.ofInt_toInt _).symm

theorem nw_idiv {len a b d : Nat} {ps : List Nat} {y' : MethodName} {k : Int32} {x y : Int} (hl : mw_lk cd pc = some (.idiv, len, (a, b, d), ps, y', k)) (p' : Nat) (hp : pc + 1 = p') (hr : 0 ≤ x ∧ 0 < y) (h : NW sc cd D (p', ls, .inl (x / y) :: st, M, c, sl) Qr Qx) : NW sc cd D (pc, ls, .inl y :: .inl x :: st, M, c, sl) Qr Qx := by
  subst hp
  refine nw_gen hl fun ok => ?_
  obtain ⟨okM, okL, okS⟩ := ok
  have hy : nw_in y := okS _ List.mem_cons_self
  have hx : nw_in x := okS _ (List.mem_cons_of_mem _ List.mem_cons_self)
  refine ⟨nw_nz hy hr.2, (_, ls, .inl (x / y) :: st, M, c, sl), ?_, ⟨okM, okL, nw_okc (nw_divin hx hr) fun v hv => okS v (List.mem_cons_of_mem _ (List.mem_cons_of_mem _ hv))⟩, h⟩
  exact congrArg (fun z => (pc + 1, nw_ls ls, Value.int z :: st.map nw_v, nw_m M, c, sl)) (nw_div hx hy hr)
theorem nw_irem {len a b d : Nat} {ps : List Nat} {y' : MethodName} {k : Int32} {x y : Int} (hl : mw_lk cd pc = some (.irem, len, (a, b, d), ps, y', k)) (p' : Nat) (hp : pc + 1 = p') (hr : 0 ≤ x ∧ 0 < y) (h : NW sc cd D (p', ls, .inl (x % y) :: st, M, c, sl) Qr Qx) : NW sc cd D (pc, ls, .inl y :: .inl x :: st, M, c, sl) Qr Qx := by
  subst hp
  refine nw_gen hl fun ok => ?_
  obtain ⟨okM, okL, okS⟩ := ok
  have hy : nw_in y := okS _ List.mem_cons_self
  have hx : nw_in x := okS _ (List.mem_cons_of_mem _ List.mem_cons_self)
  refine ⟨nw_nz hy hr.2, (_, ls, .inl (x % y) :: st, M, c, sl), ?_, ⟨okM, okL, nw_okc (nw_modin hy hr) fun v hv => okS v (List.mem_cons_of_mem _ (List.mem_cons_of_mem _ hv))⟩, h⟩
  exact congrArg (fun z => (pc + 1, nw_ls ls, Value.int z :: st.map nw_v, nw_m M, c, sl)) (nw_mod hx hy hr)
theorem nw_ineg {len a b d : Nat} {ps : List Nat} {y' : MethodName} {k : Int32} {x : Int} (hl : mw_lk cd pc = some (.ineg, len, (a, b, d), ps, y', k)) (p' : Nat) (hp : pc + 1 = p') (hr : nw_in (-x)) (h : NW sc cd D (p', ls, .inl (-x) :: st, M, c, sl) Qr Qx) : NW sc cd D (pc, ls, .inl x :: st, M, c, sl) Qr Qx := by
  subst hp
  refine nw_gen hl fun ok => ?_
  obtain ⟨okM, okL, okS⟩ := ok
  refine ⟨(_, ls, .inl (-x) :: st, M, c, sl), ?_, ⟨okM, okL, nw_okc hr fun v hv => okS v (List.mem_cons_of_mem _ hv)⟩, h⟩
  exact congrArg (fun z => (pc + 1, nw_ls ls, Value.int z :: st.map nw_v, nw_m M, c, sl)) (Int32.ofInt_neg x).symm
theorem nw_i2l {len a b d : Nat} {ps : List Nat} {y' : MethodName} {k : Int32} {x : Int} (hl : mw_lk cd pc = some (.i2l, len, (a, b, d), ps, y', k)) (p' : Nat) (hp : pc + 1 = p') (h : NW sc cd D (p', ls, .inr (.inr (.inl x)) :: st, M, c, sl) Qr Qx) : NW sc cd D (pc, ls, .inl x :: st, M, c, sl) Qr Qx := by
  subst hp
  refine nw_gen hl fun ok => ?_
  obtain ⟨okM, okL, okS⟩ := ok
  have hx : nw_in x := okS _ List.mem_cons_self
  refine ⟨(_, ls, .inr (.inr (.inl x)) :: st, M, c, sl), ?_, ⟨okM, okL, nw_okc (show nw_il x from ⟨by omega, by omega⟩) fun v hv => okS v (List.mem_cons_of_mem _ hv)⟩, h⟩
  refine congrArg (fun z => (pc + 1, nw_ls ls, Value.long z :: st.map nw_v, nw_m M, c, sl)) ?_
  refine Int64.toInt_inj.mp ?_
  rw [Int32.toInt_toInt64, nw_ti hx, nw_tl ⟨by omega, by omega⟩]
theorem nw_i2c {len a b d : Nat} {ps : List Nat} {y' : MethodName} {k : Int32} {x : Int} (hl : mw_lk cd pc = some (.i2c, len, (a, b, d), ps, y', k)) (p' : Nat) (hp : pc + 1 = p') (h : NW sc cd D (p', ls, .inl (x % 65536) :: st, M, c, sl) Qr Qx) : NW sc cd D (pc, ls, .inl x :: st, M, c, sl) Qr Qx := by
  subst hp
  refine nw_gen hl fun ok => ?_
  obtain ⟨okM, okL, okS⟩ := ok
  refine ⟨(_, ls, .inl (x % 65536) :: st, M, c, sl), ?_, ⟨okM, okL, nw_okc (show nw_in (x % 65536) from ⟨by omega, by omega⟩) fun v hv => okS v (List.mem_cons_of_mem _ hv)⟩, h⟩
  exact congrArg (fun z => (pc + 1, nw_ls ls, Value.int z :: st.map nw_v, nw_m M, c, sl)) (nw_chr x)
theorem nw_i2d {len a b d : Nat} {ps : List Nat} {y' : MethodName} {k : Int32} {x : Int} (hl : mw_lk cd pc = some (.i2d, len, (a, b, d), ps, y', k)) (p' : Nat) (hp : pc + 1 = p') (h : NW sc cd D (p', ls, .inr (.inr (.inr (.inl (FP.i2d (Int32.ofInt x))))) :: st, M, c, sl) Qr Qx) : NW sc cd D (pc, ls, .inl x :: st, M, c, sl) Qr Qx := by
  subst hp
  refine nw_gen hl fun ok => ?_
  obtain ⟨okM, okL, okS⟩ := ok
  exact ⟨(_, ls, .inr (.inr (.inr (.inl (FP.i2d (Int32.ofInt x))))) :: st, M, c, sl), rfl, ⟨okM, okL, nw_okc True.intro fun v hv => okS v (List.mem_cons_of_mem _ hv)⟩, h⟩
theorem nw_i2f {len a b d : Nat} {ps : List Nat} {y' : MethodName} {k : Int32} {x : Int} (hl : mw_lk cd pc = some (.i2f, len, (a, b, d), ps, y', k)) (p' : Nat) (hp : pc + 1 = p') (h : NW sc cd D (p', ls, .inr (.inr (.inr (.inr (FP.i2f (Int32.ofInt x))))) :: st, M, c, sl) Qr Qx) : NW sc cd D (pc, ls, .inl x :: st, M, c, sl) Qr Qx := by
  subst hp
  refine nw_gen hl fun ok => ?_
  obtain ⟨okM, okL, okS⟩ := ok
  exact ⟨(_, ls, .inr (.inr (.inr (.inr (FP.i2f (Int32.ofInt x))))) :: st, M, c, sl), rfl, ⟨okM, okL, nw_okc True.intro fun v hv => okS v (List.mem_cons_of_mem _ hv)⟩, h⟩
theorem nw_f2d {len a b d : Nat} {ps : List Nat} {y' : MethodName} {k : Int32} {x : UInt32} (hl : mw_lk cd pc = some (.f2d, len, (a, b, d), ps, y', k)) (p' : Nat) (hp : pc + 1 = p') (hn : vf_n64 (FP.f2d x)) (h : NW sc cd D (p', ls, .inr (.inr (.inr (.inl (FP.f2d x)))) :: st, M, c, sl) Qr Qx) : NW sc cd D (pc, ls, .inr (.inr (.inr (.inr x))) :: st, M, c, sl) Qr Qx := by
  subst hp
  refine nw_gen hl fun ok => ?_
  obtain ⟨okM, okL, okS⟩ := ok
  exact ⟨hn, (_, ls, .inr (.inr (.inr (.inl (FP.f2d x)))) :: st, M, c, sl), rfl, ⟨okM, okL, nw_okc True.intro fun v hv => okS v (List.mem_cons_of_mem _ hv)⟩, h⟩
theorem nw_ddiv {len a b d : Nat} {ps : List Nat} {y' : MethodName} {k : Int32} {x y : UInt64} (hl : mw_lk cd pc = some (.ddiv, len, (a, b, d), ps, y', k)) (p' : Nat) (hp : pc + 1 = p') (hn : vf_n64 (FP.ddiv x y)) (h : NW sc cd D (p', ls, .inr (.inr (.inr (.inl (FP.ddiv x y)))) :: st, M, c, sl) Qr Qx) : NW sc cd D (pc, ls, .inr (.inr (.inr (.inl y))) :: .inr (.inr (.inr (.inl x))) :: st, M, c, sl) Qr Qx := by
  subst hp
  refine nw_gen hl fun ok => ?_
  obtain ⟨okM, okL, okS⟩ := ok
  exact ⟨hn, (_, ls, .inr (.inr (.inr (.inl (FP.ddiv x y)))) :: st, M, c, sl), rfl, ⟨okM, okL, nw_okc True.intro fun v hv => okS v (List.mem_cons_of_mem _ (List.mem_cons_of_mem _ hv))⟩, h⟩
theorem nw_fdiv {len a b d : Nat} {ps : List Nat} {y' : MethodName} {k : Int32} {x y : UInt32} (hl : mw_lk cd pc = some (.fdiv, len, (a, b, d), ps, y', k)) (p' : Nat) (hp : pc + 1 = p') (hn : vf_n32 (FP.fdiv x y)) (h : NW sc cd D (p', ls, .inr (.inr (.inr (.inr (FP.fdiv x y)))) :: st, M, c, sl) Qr Qx) : NW sc cd D (pc, ls, .inr (.inr (.inr (.inr y))) :: .inr (.inr (.inr (.inr x))) :: st, M, c, sl) Qr Qx := by
  subst hp
  refine nw_gen hl fun ok => ?_
  obtain ⟨okM, okL, okS⟩ := ok
  exact ⟨hn, (_, ls, .inr (.inr (.inr (.inr (FP.fdiv x y)))) :: st, M, c, sl), rfl, ⟨okM, okL, nw_okc True.intro fun v hv => okS v (List.mem_cons_of_mem _ (List.mem_cons_of_mem _ hv))⟩, h⟩
theorem nw_dcmp {o : CmpOp} {len a b d : Nat} {ps : List Nat} {y' : MethodName} {k : Int32} {x y : UInt64} (hl : mw_lk cd pc = some (.dcmp o, len, (a, b, d), ps, y', k)) (p' : Nat) (hp : pc + 1 = p') (h : NW sc cd D (p', ls, .inl (Op.cmpValue (FP.dcmp x y) o).toInt :: st, M, c, sl) Qr Qx) : NW sc cd D (pc, ls, .inr (.inr (.inr (.inl y))) :: .inr (.inr (.inr (.inl x))) :: st, M, c, sl) Qr Qx := by
  subst hp
  refine nw_gen hl fun ok => ?_
  obtain ⟨okM, okL, okS⟩ := ok
  refine ⟨(_, ls, .inl (Op.cmpValue (FP.dcmp x y) o).toInt :: st, M, c, sl), ?_, ⟨okM, okL, nw_okc (nw_inT _) fun v hv => okS v (List.mem_cons_of_mem _ (List.mem_cons_of_mem _ hv))⟩, h⟩
  exact congrArg (fun z => (pc + 1, nw_ls ls, Value.int z :: st.map nw_v, nw_m M, c, sl)) (Int32.ofInt_toInt _).symm
theorem nw_fcmp {o : CmpOp} {len a b d : Nat} {ps : List Nat} {y' : MethodName} {k : Int32} {x y : UInt32} (hl : mw_lk cd pc = some (.fcmp o, len, (a, b, d), ps, y', k)) (p' : Nat) (hp : pc + 1 = p') (h : NW sc cd D (p', ls, .inl (Op.cmpValue (FP.fcmp x y) o).toInt :: st, M, c, sl) Qr Qx) : NW sc cd D (pc, ls, .inr (.inr (.inr (.inr y))) :: .inr (.inr (.inr (.inr x))) :: st, M, c, sl) Qr Qx := by
  subst hp
  refine nw_gen hl fun ok => ?_
  obtain ⟨okM, okL, okS⟩ := ok
  refine ⟨(_, ls, .inl (Op.cmpValue (FP.fcmp x y) o).toInt :: st, M, c, sl), ?_, ⟨okM, okL, nw_okc (nw_inT _) fun v hv => okS v (List.mem_cons_of_mem _ (List.mem_cons_of_mem _ hv))⟩, h⟩
  exact congrArg (fun z => (pc + 1, nw_ls ls, Value.int z :: st.map nw_v, nw_m M, c, sl)) (Int32.ofInt_toInt _).symm
/-- -1, 0, 1 -/
def nw_cmp3 (x y : Int) : Int := if x < y then -1 else if x = y then 0 else 1
theorem nw_lcmp {len a b d : Nat} {ps : List Nat} {y' : MethodName} {k : Int32} {x y : Int} (hl : mw_lk cd pc = some (.lcmp, len, (a, b, d), ps, y', k)) (p' : Nat) (hp : pc + 1 = p') (h : NW sc cd D (p', ls, .inl (nw_cmp3 x y) :: st, M, c, sl) Qr Qx) : NW sc cd D (pc, ls, .inr (.inr (.inl y)) :: .inr (.inr (.inl x)) :: st, M, c, sl) Qr Qx := by
  subst hp
  refine nw_gen hl fun ok => ?_
  obtain ⟨okM, okL, okS⟩ := ok
  have hy : nw_il y := okS _ List.mem_cons_self
  have hx : nw_il x := okS _ (List.mem_cons_of_mem _ List.mem_cons_self)
  refine ⟨(_, ls, .inl (nw_cmp3 x y) :: st, M, c, sl), ?_, ⟨okM, okL, nw_okc (nw_cmp3in x y) fun v hv => okS v (List.mem_cons_of_mem _ (List.mem_cons_of_mem _ hv))⟩, h⟩
  exact congrArg (fun z => (pc + 1, nw_ls ls, Value.int z :: st.map nw_v, nw_m M, c, sl)) (nw_lcmpE hx hy)

theorem nw_dup {len a b d : Nat} {ps : List Nat} {y' : MethodName} {k : Int32} {x : Int} (hl : mw_lk cd pc = some (.dup, len, (a, b, d), ps, y', k)) (p' : Nat) (hp : pc + 1 = p') (h : NW sc cd D (p', ls, .inl x :: .inl x :: st, M, c, sl) Qr Qx) : NW sc cd D (pc, ls, .inl x :: st, M, c, sl) Qr Qx := by
  subst hp
  refine nw_gen hl fun ok => ?_
  obtain ⟨okM, okL, okS⟩ := ok
  exact ⟨(_, ls, .inl x :: .inl x :: st, M, c, sl), rfl, ⟨okM, okL, nw_okc (okS _ List.mem_cons_self) okS⟩, h⟩
theorem nw_dupA {len a b d : Nat} {ps : List Nat} {y' : MethodName} {k : Int32} {x : Nat} (hl : mw_lk cd pc = some (.dup, len, (a, b, d), ps, y', k)) (p' : Nat) (hp : pc + 1 = p') (h : NW sc cd D (p', ls, .inr (.inl (some x)) :: .inr (.inl (some x)) :: st, M, c, sl) Qr Qx) : NW sc cd D (pc, ls, .inr (.inl (some x)) :: st, M, c, sl) Qr Qx := by
  subst hp
  refine nw_gen hl fun ok => ?_
  obtain ⟨okM, okL, okS⟩ := ok
  exact ⟨(_, ls, .inr (.inl (some x)) :: .inr (.inl (some x)) :: st, M, c, sl), rfl, ⟨okM, okL, nw_okc True.intro okS⟩, h⟩
theorem nw_dup2 {len a b d : Nat} {ps : List Nat} {y' : MethodName} {k : Int32} {x : Int} {r : Nat} (hl : mw_lk cd pc = some (.dup2, len, (a, b, d), ps, y', k)) (p' : Nat) (hp : pc + 1 = p') (h : NW sc cd D (p', ls, .inl x :: .inr (.inl (some r)) :: .inl x :: .inr (.inl (some r)) :: st, M, c, sl) Qr Qx) : NW sc cd D (pc, ls, .inl x :: .inr (.inl (some r)) :: st, M, c, sl) Qr Qx := by
  subst hp
  refine nw_gen hl fun ok => ?_
  obtain ⟨okM, okL, okS⟩ := ok
  exact ⟨(_, ls, .inl x :: .inr (.inl (some r)) :: .inl x :: .inr (.inl (some r)) :: st, M, c, sl), rfl, ⟨okM, okL, nw_okc (okS _ List.mem_cons_self) (nw_okc True.intro okS)⟩, h⟩
theorem nw_pop {len a b d : Nat} {ps : List Nat} {y' : MethodName} {k : Int32} {x : Int} (hl : mw_lk cd pc = some (.pop, len, (a, b, d), ps, y', k)) (p' : Nat) (hp : pc + 1 = p') (h : NW sc cd D (p', ls, st, M, c, sl) Qr Qx) : NW sc cd D (pc, ls, .inl x :: st, M, c, sl) Qr Qx := by
  subst hp
  refine nw_gen hl fun ok => ?_
  obtain ⟨okM, okL, okS⟩ := ok
  exact ⟨(_, ls, st, M, c, sl), rfl, ⟨okM, okL, fun v hv => okS v (List.mem_cons_of_mem _ hv)⟩, h⟩
theorem nw_popA {len a b d : Nat} {ps : List Nat} {y' : MethodName} {k : Int32} {x : Nat} (hl : mw_lk cd pc = some (.pop, len, (a, b, d), ps, y', k)) (p' : Nat) (hp : pc + 1 = p') (h : NW sc cd D (p', ls, st, M, c, sl) Qr Qx) : NW sc cd D (pc, ls, .inr (.inl (some x)) :: st, M, c, sl) Qr Qx := by
  subst hp
  refine nw_gen hl fun ok => ?_
  obtain ⟨okM, okL, okS⟩ := ok
  exact ⟨(_, ls, st, M, c, sl), rfl, ⟨okM, okL, fun v hv => okS v (List.mem_cons_of_mem _ hv)⟩, h⟩
theorem nw_goto {w : Int} {len t b d : Nat} {ps : List Nat} {y' : MethodName} {k : Int32} (hl : mw_lk cd pc = some (.goto w, len, (t, b, d), ps, y', k)) (h : NW sc cd D (t, ls, st, M, c, sl) Qr Qx) : NW sc cd D (pc, ls, st, M, c, sl) Qr Qx := by
  refine nw_gen hl fun ok => ?_
  obtain ⟨okM, okL, okS⟩ := ok
  exact ⟨(_, ls, st, M, c, sl), rfl, ⟨okM, okL, okS⟩, h⟩

theorem nw_ic_eq {w : Int} {len t b d : Nat} {ps : List Nat} {y' : MethodName} {k : Int32} {x y : Int} (hl : mw_lk cd pc = some (.if_icmp .eq w, len, (t, b, d), ps, y', k)) (p' : Nat) (hp : pc + 3 = p') (hT : x = y → NW sc cd D (t, ls, st, M, c, sl) Qr Qx) (hF : ¬ x = y → NW sc cd D (p', ls, st, M, c, sl) Qr Qx) : NW sc cd D (pc, ls, .inl y :: .inl x :: st, M, c, sl) Qr Qx := by
  subst hp
  refine nw_gen hl fun ok => ?_
  obtain ⟨okM, okL, okS⟩ := ok
  have hy : nw_in y := okS _ List.mem_cons_self
  have hx : nw_in x := okS _ (List.mem_cons_of_mem _ List.mem_cons_self)
  have okS' : ∀ v, v ∈ st → nw_okV v := fun v hv => okS v (List.mem_cons_of_mem _ (List.mem_cons_of_mem _ hv))
  have e : (Int32.ofInt x = Int32.ofInt y) ↔ (x = y) := nw_inj hx hy
  exact ⟨fun z => ⟨(_, ls, st, M, c, sl), rfl, ⟨okM, okL, okS'⟩, hT (e.mp z)⟩, fun z => ⟨(_, ls, st, M, c, sl), rfl, ⟨okM, okL, okS'⟩, hF (by have z' := (not_congr e).mp z; omega)⟩⟩

theorem nw_if_eq {w : Int} {len t b d : Nat} {ps : List Nat} {y' : MethodName} {k : Int32} {x : Int} (hl : mw_lk cd pc = some (.ifCond .eq w, len, (t, b, d), ps, y', k)) (p' : Nat) (hp : pc + 3 = p') (hT : x = 0 → NW sc cd D (t, ls, st, M, c, sl) Qr Qx) (hF : ¬ x = 0 → NW sc cd D (p', ls, st, M, c, sl) Qr Qx) : NW sc cd D (pc, ls, .inl x :: st, M, c, sl) Qr Qx := by
  subst hp
  refine nw_gen hl fun ok => ?_
  obtain ⟨okM, okL, okS⟩ := ok
  have hx : nw_in x := okS _ List.mem_cons_self
  have hy : nw_in 0 := ⟨by decide, by decide⟩
  have okS' : ∀ v, v ∈ st → nw_okV v := fun v hv => okS v (List.mem_cons_of_mem _ hv)
  have e : (Int32.ofInt x = Int32.ofInt 0) ↔ (x = 0) := nw_inj hx hy
  exact ⟨fun z => ⟨(_, ls, st, M, c, sl), rfl, ⟨okM, okL, okS'⟩, hT (e.mp z)⟩, fun z => ⟨(_, ls, st, M, c, sl), rfl, ⟨okM, okL, okS'⟩, hF (by have z' := (not_congr e).mp z; omega)⟩⟩

theorem nw_ic_ne {w : Int} {len t b d : Nat} {ps : List Nat} {y' : MethodName} {k : Int32} {x y : Int} (hl : mw_lk cd pc = some (.if_icmp .ne w, len, (t, b, d), ps, y', k)) (p' : Nat) (hp : pc + 3 = p') (hT : ¬ x = y → NW sc cd D (t, ls, st, M, c, sl) Qr Qx) (hF : x = y → NW sc cd D (p', ls, st, M, c, sl) Qr Qx) : NW sc cd D (pc, ls, .inl y :: .inl x :: st, M, c, sl) Qr Qx := by
  subst hp
  refine nw_gen hl fun ok => ?_
  obtain ⟨okM, okL, okS⟩ := ok
  have hy : nw_in y := okS _ List.mem_cons_self
  have hx : nw_in x := okS _ (List.mem_cons_of_mem _ List.mem_cons_self)
  have okS' : ∀ v, v ∈ st → nw_okV v := fun v hv => okS v (List.mem_cons_of_mem _ (List.mem_cons_of_mem _ hv))
  have e : (¬ Int32.ofInt x = Int32.ofInt y) ↔ (¬ x = y) := not_congr (nw_inj hx hy)
  exact ⟨fun z => ⟨(_, ls, st, M, c, sl), rfl, ⟨okM, okL, okS'⟩, hT (e.mp z)⟩, fun z => ⟨(_, ls, st, M, c, sl), rfl, ⟨okM, okL, okS'⟩, hF (by have z' := (not_congr e).mp z; omega)⟩⟩

theorem nw_if_ne {w : Int} {len t b d : Nat} {ps : List Nat} {y' : MethodName} {k : Int32} {x : Int} (hl : mw_lk cd pc = some (.ifCond .ne w, len, (t, b, d), ps, y', k)) (p' : Nat) (hp : pc + 3 = p') (hT : ¬ x = 0 → NW sc cd D (t, ls, st, M, c, sl) Qr Qx) (hF : x = 0 → NW sc cd D (p', ls, st, M, c, sl) Qr Qx) : NW sc cd D (pc, ls, .inl x :: st, M, c, sl) Qr Qx := by
  subst hp
  refine nw_gen hl fun ok => ?_
  obtain ⟨okM, okL, okS⟩ := ok
  have hx : nw_in x := okS _ List.mem_cons_self
  have hy : nw_in 0 := ⟨by decide, by decide⟩
  have okS' : ∀ v, v ∈ st → nw_okV v := fun v hv => okS v (List.mem_cons_of_mem _ hv)
  have e : (¬ Int32.ofInt x = Int32.ofInt 0) ↔ (¬ x = 0) := not_congr (nw_inj hx hy)
  exact ⟨fun z => ⟨(_, ls, st, M, c, sl), rfl, ⟨okM, okL, okS'⟩, hT (e.mp z)⟩, fun z => ⟨(_, ls, st, M, c, sl), rfl, ⟨okM, okL, okS'⟩, hF (by have z' := (not_congr e).mp z; omega)⟩⟩

theorem nw_ic_lt {w : Int} {len t b d : Nat} {ps : List Nat} {y' : MethodName} {k : Int32} {x y : Int} (hl : mw_lk cd pc = some (.if_icmp .lt w, len, (t, b, d), ps, y', k)) (p' : Nat) (hp : pc + 3 = p') (hT : x < y → NW sc cd D (t, ls, st, M, c, sl) Qr Qx) (hF : y ≤ x → NW sc cd D (p', ls, st, M, c, sl) Qr Qx) : NW sc cd D (pc, ls, .inl y :: .inl x :: st, M, c, sl) Qr Qx := by
  subst hp
  refine nw_gen hl fun ok => ?_
  obtain ⟨okM, okL, okS⟩ := ok
  have hy : nw_in y := okS _ List.mem_cons_self
  have hx : nw_in x := okS _ (List.mem_cons_of_mem _ List.mem_cons_self)
  have okS' : ∀ v, v ∈ st → nw_okV v := fun v hv => okS v (List.mem_cons_of_mem _ (List.mem_cons_of_mem _ hv))
  have e : (Int32.ofInt x < Int32.ofInt y) ↔ (x < y) := nw_lt hx hy
  exact ⟨fun z => ⟨(_, ls, st, M, c, sl), rfl, ⟨okM, okL, okS'⟩, hT (e.mp z)⟩, fun z => ⟨(_, ls, st, M, c, sl), rfl, ⟨okM, okL, okS'⟩, hF (by have z' := (not_congr e).mp z; omega)⟩⟩

theorem nw_if_lt {w : Int} {len t b d : Nat} {ps : List Nat} {y' : MethodName} {k : Int32} {x : Int} (hl : mw_lk cd pc = some (.ifCond .lt w, len, (t, b, d), ps, y', k)) (p' : Nat) (hp : pc + 3 = p') (hT : x < 0 → NW sc cd D (t, ls, st, M, c, sl) Qr Qx) (hF : 0 ≤ x → NW sc cd D (p', ls, st, M, c, sl) Qr Qx) : NW sc cd D (pc, ls, .inl x :: st, M, c, sl) Qr Qx := by
  subst hp
  refine nw_gen hl fun ok => ?_
  obtain ⟨okM, okL, okS⟩ := ok
  have hx : nw_in x := okS _ List.mem_cons_self
  have hy : nw_in 0 := ⟨by decide, by decide⟩
  have okS' : ∀ v, v ∈ st → nw_okV v := fun v hv => okS v (List.mem_cons_of_mem _ hv)
  have e : (Int32.ofInt x < Int32.ofInt 0) ↔ (x < 0) := nw_lt hx hy
  exact ⟨fun z => ⟨(_, ls, st, M, c, sl), rfl, ⟨okM, okL, okS'⟩, hT (e.mp z)⟩, fun z => ⟨(_, ls, st, M, c, sl), rfl, ⟨okM, okL, okS'⟩, hF (by have z' := (not_congr e).mp z; omega)⟩⟩

theorem nw_ic_ge {w : Int} {len t b d : Nat} {ps : List Nat} {y' : MethodName} {k : Int32} {x y : Int} (hl : mw_lk cd pc = some (.if_icmp .ge w, len, (t, b, d), ps, y', k)) (p' : Nat) (hp : pc + 3 = p') (hT : y ≤ x → NW sc cd D (t, ls, st, M, c, sl) Qr Qx) (hF : x < y → NW sc cd D (p', ls, st, M, c, sl) Qr Qx) : NW sc cd D (pc, ls, .inl y :: .inl x :: st, M, c, sl) Qr Qx := by
  subst hp
  refine nw_gen hl fun ok => ?_
  obtain ⟨okM, okL, okS⟩ := ok
  have hy : nw_in y := okS _ List.mem_cons_self
  have hx : nw_in x := okS _ (List.mem_cons_of_mem _ List.mem_cons_self)
  have okS' : ∀ v, v ∈ st → nw_okV v := fun v hv => okS v (List.mem_cons_of_mem _ (List.mem_cons_of_mem _ hv))
  have e : (Int32.ofInt y ≤ Int32.ofInt x) ↔ (y ≤ x) := nw_le hy hx
  exact ⟨fun z => ⟨(_, ls, st, M, c, sl), rfl, ⟨okM, okL, okS'⟩, hT (e.mp z)⟩, fun z => ⟨(_, ls, st, M, c, sl), rfl, ⟨okM, okL, okS'⟩, hF (by have z' := (not_congr e).mp z; omega)⟩⟩

theorem nw_if_ge {w : Int} {len t b d : Nat} {ps : List Nat} {y' : MethodName} {k : Int32} {x : Int} (hl : mw_lk cd pc = some (.ifCond .ge w, len, (t, b, d), ps, y', k)) (p' : Nat) (hp : pc + 3 = p') (hT : 0 ≤ x → NW sc cd D (t, ls, st, M, c, sl) Qr Qx) (hF : x < 0 → NW sc cd D (p', ls, st, M, c, sl) Qr Qx) : NW sc cd D (pc, ls, .inl x :: st, M, c, sl) Qr Qx := by
  subst hp
  refine nw_gen hl fun ok => ?_
  obtain ⟨okM, okL, okS⟩ := ok
  have hx : nw_in x := okS _ List.mem_cons_self
  have hy : nw_in 0 := ⟨by decide, by decide⟩
  have okS' : ∀ v, v ∈ st → nw_okV v := fun v hv => okS v (List.mem_cons_of_mem _ hv)
  have e : (Int32.ofInt 0 ≤ Int32.ofInt x) ↔ (0 ≤ x) := nw_le hy hx
  exact ⟨fun z => ⟨(_, ls, st, M, c, sl), rfl, ⟨okM, okL, okS'⟩, hT (e.mp z)⟩, fun z => ⟨(_, ls, st, M, c, sl), rfl, ⟨okM, okL, okS'⟩, hF (by have z' := (not_congr e).mp z; omega)⟩⟩

theorem nw_ic_gt {w : Int} {len t b d : Nat} {ps : List Nat} {y' : MethodName} {k : Int32} {x y : Int} (hl : mw_lk cd pc = some (.if_icmp .gt w, len, (t, b, d), ps, y', k)) (p' : Nat) (hp : pc + 3 = p') (hT : y < x → NW sc cd D (t, ls, st, M, c, sl) Qr Qx) (hF : x ≤ y → NW sc cd D (p', ls, st, M, c, sl) Qr Qx) : NW sc cd D (pc, ls, .inl y :: .inl x :: st, M, c, sl) Qr Qx := by
  subst hp
  refine nw_gen hl fun ok => ?_
  obtain ⟨okM, okL, okS⟩ := ok
  have hy : nw_in y := okS _ List.mem_cons_self
  have hx : nw_in x := okS _ (List.mem_cons_of_mem _ List.mem_cons_self)
  have okS' : ∀ v, v ∈ st → nw_okV v := fun v hv => okS v (List.mem_cons_of_mem _ (List.mem_cons_of_mem _ hv))
  have e : (Int32.ofInt y < Int32.ofInt x) ↔ (y < x) := nw_lt hy hx
  exact ⟨fun z => ⟨(_, ls, st, M, c, sl), rfl, ⟨okM, okL, okS'⟩, hT (e.mp z)⟩, fun z => ⟨(_, ls, st, M, c, sl), rfl, ⟨okM, okL, okS'⟩, hF (by have z' := (not_congr e).mp z; omega)⟩⟩

theorem nw_if_gt {w : Int} {len t b d : Nat} {ps : List Nat} {y' : MethodName} {k : Int32} {x : Int} (hl : mw_lk cd pc = some (.ifCond .gt w, len, (t, b, d), ps, y', k)) (p' : Nat) (hp : pc + 3 = p') (hT : 0 < x → NW sc cd D (t, ls, st, M, c, sl) Qr Qx) (hF : x ≤ 0 → NW sc cd D (p', ls, st, M, c, sl) Qr Qx) : NW sc cd D (pc, ls, .inl x :: st, M, c, sl) Qr Qx := by
  subst hp
  refine nw_gen hl fun ok => ?_
  obtain ⟨okM, okL, okS⟩ := ok
  have hx : nw_in x := okS _ List.mem_cons_self
  have hy : nw_in 0 := ⟨by decide, by decide⟩
  have okS' : ∀ v, v ∈ st → nw_okV v := fun v hv => okS v (List.mem_cons_of_mem _ hv)
  have e : (Int32.ofInt 0 < Int32.ofInt x) ↔ (0 < x) := nw_lt hy hx
  exact ⟨fun z => ⟨(_, ls, st, M, c, sl), rfl, ⟨okM, okL, okS'⟩, hT (e.mp z)⟩, fun z => ⟨(_, ls, st, M, c, sl), rfl, ⟨okM, okL, okS'⟩, hF (by have z' := (not_congr e).mp z; omega)⟩⟩

theorem nw_ic_le {w : Int} {len t b d : Nat} {ps : List Nat} {y' : MethodName} {k : Int32} {x y : Int} (hl : mw_lk cd pc = some (.if_icmp .le w, len, (t, b, d), ps, y', k)) (p' : Nat) (hp : pc + 3 = p') (hT : x ≤ y → NW sc cd D (t, ls, st, M, c, sl) Qr Qx) (hF : y < x → NW sc cd D (p', ls, st, M, c, sl) Qr Qx) : NW sc cd D (pc, ls, .inl y :: .inl x :: st, M, c, sl) Qr Qx := by
  subst hp
  refine nw_gen hl fun ok => ?_
  obtain ⟨okM, okL, okS⟩ := ok
  have hy : nw_in y := okS _ List.mem_cons_self
  have hx : nw_in x := okS _ (List.mem_cons_of_mem _ List.mem_cons_self)
  have okS' : ∀ v, v ∈ st → nw_okV v := fun v hv => okS v (List.mem_cons_of_mem _ (List.mem_cons_of_mem _ hv))
  have e : (Int32.ofInt x ≤ Int32.ofInt y) ↔ (x ≤ y) := nw_le hx hy
  exact ⟨fun z => ⟨(_, ls, st, M, c, sl), rfl, ⟨okM, okL, okS'⟩, hT (e.mp z)⟩, fun z => ⟨(_, ls, st, M, c, sl), rfl, ⟨okM, okL, okS'⟩, hF (by have z' := (not_congr e).mp z; omega)⟩⟩

theorem nw_if_le {w : Int} {len t b d : Nat} {ps : List Nat} {y' : MethodName} {k : Int32} {x : Int} (hl : mw_lk cd pc = some (.ifCond .le w, len, (t, b, d), ps, y', k)) (p' : Nat) (hp : pc + 3 = p') (hT : x ≤ 0 → NW sc cd D (t, ls, st, M, c, sl) Qr Qx) (hF : 0 < x → NW sc cd D (p', ls, st, M, c, sl) Qr Qx) : NW sc cd D (pc, ls, .inl x :: st, M, c, sl) Qr Qx := by
  subst hp
  refine nw_gen hl fun ok => ?_
  obtain ⟨okM, okL, okS⟩ := ok
  have hx : nw_in x := okS _ List.mem_cons_self
  have hy : nw_in 0 := ⟨by decide, by decide⟩
  have okS' : ∀ v, v ∈ st → nw_okV v := fun v hv => okS v (List.mem_cons_of_mem _ hv)
  have e : (Int32.ofInt x ≤ Int32.ofInt 0) ↔ (x ≤ 0) := nw_le hx hy
  exact ⟨fun z => ⟨(_, ls, st, M, c, sl), rfl, ⟨okM, okL, okS'⟩, hT (e.mp z)⟩, fun z => ⟨(_, ls, st, M, c, sl), rfl, ⟨okM, okL, okS'⟩, hF (by have z' := (not_congr e).mp z; omega)⟩⟩

theorem nw_tsIn {w lo hi : Int} {offs : Array Int} {len t b d : Nat} {ps : List Nat} {y' : MethodName} {k : Int32} {x : Int} (hl : mw_lk cd pc = some (.tableswitch w lo hi offs, len, (t, b, d), ps, y', k)) (p' : Nat) (hx : lo ≤ x ∧ x ≤ hi ∧ ps.getD (x - lo).toNat t = p') (h : NW sc cd D (p', ls, st, M, c, sl) Qr Qx) : NW sc cd D (pc, ls, .inl x :: st, M, c, sl) Qr Qx := by
  refine nw_gen hl fun ok => ?_
  obtain ⟨okM, okL, okS⟩ := ok
  have hr : nw_in x := okS _ List.mem_cons_self
  refine ⟨(p', ls, st, M, c, sl), ?_, ⟨okM, okL, fun v hv => okS v (List.mem_cons_of_mem _ hv)⟩, h⟩
  refine congrArg (fun z => (z, nw_ls ls, st.map nw_v, nw_m M, c, sl)) ?_
  show mw_sw (Int32.ofInt x) lo hi ps t = p'
  unfold mw_sw
  rw [nw_ti hr, if_neg (by omega), if_neg (by omega)]
  exact hx.2.2
theorem nw_tsOut {w lo hi : Int} {offs : Array Int} {len t b d : Nat} {ps : List Nat} {y' : MethodName} {k : Int32} {x : Int} (hl : mw_lk cd pc = some (.tableswitch w lo hi offs, len, (t, b, d), ps, y', k)) (hx : x < lo ∨ hi < x) (h : NW sc cd D (t, ls, st, M, c, sl) Qr Qx) : NW sc cd D (pc, ls, .inl x :: st, M, c, sl) Qr Qx := by
  refine nw_gen hl fun ok => ?_
  obtain ⟨okM, okL, okS⟩ := ok
  have hr : nw_in x := okS _ List.mem_cons_self
  refine ⟨(t, ls, st, M, c, sl), ?_, ⟨okM, okL, fun v hv => okS v (List.mem_cons_of_mem _ hv)⟩, h⟩
  refine congrArg (fun z => (z, nw_ls ls, st.map nw_v, nw_m M, c, sl)) ?_
  show mw_sw (Int32.ofInt x) lo hi ps t = t
  unfold mw_sw
  rw [nw_ti hr]
  by_cases z : x < lo
  · rw [if_pos z]
  · rw [if_neg z, if_pos (by omega)]

theorem nw_getI {i : Nat} {len kk s : Nat} {ps : List Nat} {y' : MethodName} {k : Int32} {a m : Nat} (hl : mw_lk cd pc = some (.getfield i, len, (kk, s, 0), ps, y', k)) (p' : Nat) (hp : pc + 3 = p') (hk : a < 303 ∧ mw_kd0 a = some (kk, m)) {v : Int} (hv : M.1 a s = v) (h : NW sc cd D (p', ls, .inl v :: st, M, c, sl) Qr Qx) : NW sc cd D (pc, ls, .inr (.inl (some a)) :: st, M, c, sl) Qr Qx := by
  subst hp
  subst hv
  refine nw_gen hl fun ok => ?_
  obtain ⟨okM, okL, okS⟩ := ok
  show mw_app (if 1000001 ≤ a ∧ a < 1000031 then _ else match (nw_m M).2.2.2.2.1 a with | some (k, _) => if k = kk then _ else _ | none => _) _ _
  rw [if_neg (by omega), nw_kd hk]
  show mw_app (if kk = kk then _ else _) _ _
  rw [if_pos rfl]
  exact ⟨(_, ls, .inl (M.1 a s) :: st, M, c, sl), rfl, ⟨okM, okL, nw_okc (okM.1 a s) fun v hv => okS v (List.mem_cons_of_mem _ hv)⟩, h⟩

theorem nw_getZ {i : Nat} {len kk s : Nat} {ps : List Nat} {y' : MethodName} {k : Int32} {a m : Nat} (hl : mw_lk cd pc = some (.getfield i, len, (kk, s, 3), ps, y', k)) (p' : Nat) (hp : pc + 3 = p') (hk : a < 303 ∧ mw_kd0 a = some (kk, m)) {v : Int} (hv : M.1 a s = v) (h : NW sc cd D (p', ls, .inl v :: st, M, c, sl) Qr Qx) : NW sc cd D (pc, ls, .inr (.inl (some a)) :: st, M, c, sl) Qr Qx := by
  subst hp
  subst hv
  refine nw_gen hl fun ok => ?_
  obtain ⟨okM, okL, okS⟩ := ok
  show mw_app (if 1000001 ≤ a ∧ a < 1000031 then _ else match (nw_m M).2.2.2.2.1 a with | some (k, _) => if k = kk then _ else _ | none => _) _ _
  rw [if_neg (by omega), nw_kd hk]
  show mw_app (if kk = kk then _ else _) _ _
  rw [if_pos rfl]
  exact ⟨(_, ls, .inl (M.1 a s) :: st, M, c, sl), rfl, ⟨okM, okL, nw_okc (okM.1 a s) fun v hv => okS v (List.mem_cons_of_mem _ hv)⟩, h⟩

theorem nw_getL {i : Nat} {len kk s : Nat} {ps : List Nat} {y' : MethodName} {k : Int32} {a m : Nat} (hl : mw_lk cd pc = some (.getfield i, len, (kk, s, 1), ps, y', k)) (p' : Nat) (hp : pc + 3 = p') (hk : a < 303 ∧ mw_kd0 a = some (kk, m)) {v : Int} (hv : M.2.1 a s = v) (h : NW sc cd D (p', ls, .inr (.inr (.inl v)) :: st, M, c, sl) Qr Qx) : NW sc cd D (pc, ls, .inr (.inl (some a)) :: st, M, c, sl) Qr Qx := by
  subst hp
  subst hv
  refine nw_gen hl fun ok => ?_
  obtain ⟨okM, okL, okS⟩ := ok
  show mw_app (if 1000001 ≤ a ∧ a < 1000031 then _ else match (nw_m M).2.2.2.2.1 a with | some (k, _) => if k = kk then _ else _ | none => _) _ _
  rw [if_neg (by omega), nw_kd hk]
  show mw_app (if kk = kk then _ else _) _ _
  rw [if_pos rfl]
  exact ⟨(_, ls, .inr (.inr (.inl (M.2.1 a s))) :: st, M, c, sl), rfl, ⟨okM, okL, nw_okc (okM.2 a s) fun v hv => okS v (List.mem_cons_of_mem _ hv)⟩, h⟩
theorem nw_getA {i : Nat} {len kk s : Nat} {ps : List Nat} {y' : MethodName} {k : Int32} {a m : Nat} (hl : mw_lk cd pc = some (.getfield i, len, (kk, s, 2), ps, y', k)) (p' : Nat) (hp : pc + 3 = p') (hk : a < 303 ∧ mw_kd0 a = some (kk, m)) {v : Nat} (hv : mw_rm0 M.2.2.2.1 M.2.2.2.2.1 a s = some v) (h : NW sc cd D (p', ls, .inr (.inl (some v)) :: st, M, c, sl) Qr Qx) : NW sc cd D (pc, ls, .inr (.inl (some a)) :: st, M, c, sl) Qr Qx := by
  subst hp
  refine nw_gen hl fun ok => ?_
  obtain ⟨okM, okL, okS⟩ := ok
  show mw_app (if 1000001 ≤ a ∧ a < 1000031 then _ else match (nw_m M).2.2.2.2.1 a with | some (k, _) => if k = kk then _ else _ | none => _) _ _
  rw [if_neg (by omega), nw_kd hk]
  show mw_app (if kk = kk then _ else _) _ _
  rw [if_pos rfl]
  refine ⟨(_, ls, .inr (.inl (some v)) :: st, M, c, sl), ?_, ⟨okM, okL, nw_okc True.intro fun v hv => okS v (List.mem_cons_of_mem _ hv)⟩, h⟩
  exact congrArg (fun z => (pc + 3, nw_ls ls, mw_rv z :: st.map nw_v, nw_m M, c, sl)) hv

theorem nw_putI {i : Nat} {len kk s : Nat} {ps : List Nat} {y' : MethodName} {k : Int32} {a m : Nat} {v : Int} (hl : mw_lk cd pc = some (.putfield i, len, (kk, s, 0), ps, y', k)) (p' : Nat) (hp : pc + 3 = p') (hk : a < 303 ∧ mw_kd0 a = some (kk, m)) (h : NW sc cd D (p', ls, st, (nw_u M.1 a s v, M.2), c, sl) Qr Qx) : NW sc cd D (pc, ls, .inl v :: .inr (.inl (some a)) :: st, M, c, sl) Qr Qx := by
  subst hp
  refine nw_gen hl fun ok => ?_
  obtain ⟨okM, okL, okS⟩ := ok
  have hv : nw_in v := okS _ List.mem_cons_self
  show mw_app (match (nw_m M).2.2.2.2.1 a with | some (k, _) => if k = kk then _ else _ | none => _) _ _
  rw [nw_kd hk]
  show mw_app (if kk = kk then _ else _) _ _
  rw [if_pos rfl]
  refine ⟨(_, ls, st, (nw_u M.1 a s v, M.2), c, sl), ?_, ⟨⟨nw_uin okM.1 hv, okM.2⟩, okL, fun v hv => okS v (List.mem_cons_of_mem _ (List.mem_cons_of_mem _ hv))⟩, h⟩
  exact congrArg (fun z => (pc + 3, nw_ls ls, st.map nw_v, (z, (nw_m M).2), c, sl)) (nw_uF (g := Int32.ofInt))

theorem nw_putZ {i : Nat} {len kk s : Nat} {ps : List Nat} {y' : MethodName} {k : Int32} {a m : Nat} {v : Int} (hl : mw_lk cd pc = some (.putfield i, len, (kk, s, 3), ps, y', k)) (p' : Nat) (hp : pc + 3 = p') (hk : a < 303 ∧ mw_kd0 a = some (kk, m)) (hz : v = 0 ∨ v = 1) (h : NW sc cd D (p', ls, st, (nw_u M.1 a s v, M.2), c, sl) Qr Qx) : NW sc cd D (pc, ls, .inl v :: .inr (.inl (some a)) :: st, M, c, sl) Qr Qx := by
  subst hp
  refine nw_gen hl fun ok => ?_
  obtain ⟨okM, okL, okS⟩ := ok
  have hv : nw_in v := okS _ List.mem_cons_self
  show mw_app (match (nw_m M).2.2.2.2.1 a with | some (k, _) => if k = kk then _ else _ | none => _) _ _
  rw [nw_kd hk]
  show mw_app (if kk = kk then _ else _) _ _
  rw [if_pos rfl]
  refine ⟨hz.elim (fun e => Or.inl (e ▸ rfl)) (fun e => Or.inr (e ▸ rfl)), (_, ls, st, (nw_u M.1 a s v, M.2), c, sl), ?_, ⟨⟨nw_uin okM.1 hv, okM.2⟩, okL, fun v hv => okS v (List.mem_cons_of_mem _ (List.mem_cons_of_mem _ hv))⟩, h⟩
  exact congrArg (fun z => (pc + 3, nw_ls ls, st.map nw_v, (z, (nw_m M).2), c, sl)) (nw_uF (g := Int32.ofInt))

theorem nw_putL {i : Nat} {len kk s : Nat} {ps : List Nat} {y' : MethodName} {k : Int32} {a m : Nat} {v : Int} (hl : mw_lk cd pc = some (.putfield i, len, (kk, s, 1), ps, y', k)) (p' : Nat) (hp : pc + 3 = p') (hk : a < 303 ∧ mw_kd0 a = some (kk, m)) (h : NW sc cd D (p', ls, st, (M.1, nw_u M.2.1 a s v, M.2.2), c, sl) Qr Qx) : NW sc cd D (pc, ls, .inr (.inr (.inl v)) :: .inr (.inl (some a)) :: st, M, c, sl) Qr Qx := by
  subst hp
  refine nw_gen hl fun ok => ?_
  obtain ⟨okM, okL, okS⟩ := ok
  have hv : nw_il v := okS _ List.mem_cons_self
  show mw_app (match (nw_m M).2.2.2.2.1 a with | some (k, _) => if k = kk ∧ 1 = 1 then _ else _ | none => _) _ _
  rw [nw_kd hk]
  show mw_app (if kk = kk ∧ 1 = 1 then _ else _) _ _
  rw [if_pos ⟨rfl, rfl⟩]
  refine ⟨(_, ls, st, (M.1, nw_u M.2.1 a s v, M.2.2), c, sl), ?_, ⟨⟨okM.1, nw_uin okM.2 hv⟩, okL, fun v hv => okS v (List.mem_cons_of_mem _ (List.mem_cons_of_mem _ hv))⟩, h⟩
  exact congrArg (fun z => (pc + 3, nw_ls ls, st.map nw_v, ((nw_m M).1, z, (nw_m M).2.2), c, sl)) (nw_uF (g := Int64.ofInt))

theorem nw_iald {len a' b d : Nat} {ps : List Nat} {y' : MethodName} {k : Int32} {a n : Nat} {i : Int} (hl : mw_lk cd pc = some (.iaload, len, (a', b, d), ps, y', k)) (p' : Nat) (hp : pc + 1 = p') (hk : a < 303 ∧ mw_kd0 a = some (20, n)) (hi : 0 ≤ i ∧ i < (n : Int)) {v : Int} (hv : M.1 a i = v) (h : NW sc cd D (p', ls, .inl v :: st, M, c, sl) Qr Qx) : NW sc cd D (pc, ls, .inl i :: .inr (.inl (some a)) :: st, M, c, sl) Qr Qx := by
  subst hp
  subst hv
  refine nw_gen hl fun ok => ?_
  obtain ⟨okM, okL, okS⟩ := ok
  have hr : nw_in i := okS _ List.mem_cons_self
  show mw_app (if a = 1000000 then _ else match (nw_m M).2.2.2.2.1 a with | some (k, n) => if k = 20 then _ else _ | none => _) _ _
  rw [if_neg (by omega)]
  rw [nw_kd hk]
  show mw_app (if 20 = 20 then _ else _) _ _
  rw [if_pos rfl]
  refine ⟨nw_vpin hr hi, (_, ls, .inl (M.1 a i) :: st, M, c, sl), ?_, ⟨okM, okL, nw_okc (okM.1 a i) fun v hv => okS v (List.mem_cons_of_mem _ (List.mem_cons_of_mem _ hv))⟩, h⟩
  refine congrArg (fun z => (pc + 1, nw_ls ls, Value.int (Int32.ofInt (M.1 a z)) :: st.map nw_v, nw_m M, c, sl)) ?_
  rw [nw_cl hr]
  omega

theorem nw_cald {len a' b d : Nat} {ps : List Nat} {y' : MethodName} {k : Int32} {a n : Nat} {i : Int} (hl : mw_lk cd pc = some (.caload, len, (a', b, d), ps, y', k)) (p' : Nat) (hp : pc + 1 = p') (hk : a < 303 ∧ mw_kd0 a = some (21, n)) (hi : 0 ≤ i ∧ i < (n : Int)) {v : Int} (hv : M.1 a i = v) (h : NW sc cd D (p', ls, .inl v :: st, M, c, sl) Qr Qx) : NW sc cd D (pc, ls, .inl i :: .inr (.inl (some a)) :: st, M, c, sl) Qr Qx := by
  subst hp
  subst hv
  refine nw_gen hl fun ok => ?_
  obtain ⟨okM, okL, okS⟩ := ok
  have hr : nw_in i := okS _ List.mem_cons_self
  show mw_app (match (nw_m M).2.2.2.2.1 a with | some (k, n) => if k = 21 then _ else _ | none => _) _ _
  rw [nw_kd hk]
  show mw_app (if 21 = 21 then _ else _) _ _
  rw [if_pos rfl]
  refine ⟨nw_vpin hr hi, (_, ls, .inl (M.1 a i) :: st, M, c, sl), ?_, ⟨okM, okL, nw_okc (okM.1 a i) fun v hv => okS v (List.mem_cons_of_mem _ (List.mem_cons_of_mem _ hv))⟩, h⟩
  refine congrArg (fun z => (pc + 1, nw_ls ls, Value.int (Int32.ofInt (M.1 a z)) :: st.map nw_v, nw_m M, c, sl)) ?_
  rw [nw_cl hr]
  omega

theorem nw_oaN {a : Nat} (h : a < 303) : ¬ mw_oa a = true := by
  unfold mw_oa
  simp only [Bool.or_eq_true, Bool.and_eq_true, decide_eq_true_eq]
  omega
/-- an int of the script -/
def nw_sc (sc : Nat × (Nat → Int32)) (i : Int) : Int := (sc.2 i.toNat).toInt
theorem nw_sald {len a' b d : Nat} {ps : List Nat} {y' : MethodName} {k : Int32} {i : Int} (hl : mw_lk cd pc = some (.iaload, len, (a', b, d), ps, y', k)) (p' : Nat) (hp : pc + 1 = p') (hi : 0 ≤ i ∧ i < (sc.1 : Int)) (h : NW sc cd D (p', ls, .inl (nw_sc sc i) :: st, M, c, sl) Qr Qx) : NW sc cd D (pc, ls, .inl i :: .inr (.inl (some 1000000)) :: st, M, c, sl) Qr Qx := by
  subst hp
  refine nw_gen hl fun ok => ?_
  obtain ⟨okM, okL, okS⟩ := ok
  have hr : nw_in i := okS _ List.mem_cons_self
  refine ⟨nw_vpin hr hi, (_, ls, .inl (nw_sc sc i) :: st, M, c, sl), ?_, ⟨okM, okL, nw_okc (nw_inT _) fun v hv => okS v (List.mem_cons_of_mem _ (List.mem_cons_of_mem _ hv))⟩, h⟩
  refine congrArg (fun z => (pc + 1, nw_ls ls, Value.int z :: st.map nw_v, nw_m M, c, sl)) ?_
  show sc.2 (Int32.ofInt i).toNatClampNeg = Int32.ofInt (nw_sc sc i)
  rw [nw_cl hr, nw_sc, Int32.ofInt_toInt]
theorem nw_slen {len a' b d : Nat} {ps : List Nat} {y' : MethodName} {k : Int32} (hl : mw_lk cd pc = some (.arraylength, len, (a', b, d), ps, y', k)) (p' : Nat) (hp : pc + 1 = p') (hi : nw_in (sc.1 : Int)) (h : NW sc cd D (p', ls, .inl (sc.1 : Int) :: st, M, c, sl) Qr Qx) : NW sc cd D (pc, ls, .inr (.inl (some 1000000)) :: st, M, c, sl) Qr Qx := by
  subst hp
  refine nw_gen hl fun ok => ?_
  obtain ⟨okM, okL, okS⟩ := ok
  exact ⟨(_, ls, .inl (sc.1 : Int) :: st, M, c, sl), rfl, ⟨okM, okL, nw_okc hi fun v hv => okS v (List.mem_cons_of_mem _ hv)⟩, h⟩
theorem nw_alen {len a' b d : Nat} {ps : List Nat} {y' : MethodName} {k : Int32} {a n kk : Nat} (hl : mw_lk cd pc = some (.arraylength, len, (a', b, d), ps, y', k)) (p' : Nat) (hp : pc + 1 = p') (hk : a < 303 ∧ mw_kd0 a = some (kk, n)) (hn : 20 ≤ kk ∧ kk < 27 ∧ n < 2000) (h : NW sc cd D (p', ls, .inl (n : Int) :: st, M, c, sl) Qr Qx) : NW sc cd D (pc, ls, .inr (.inl (some a)) :: st, M, c, sl) Qr Qx := by
  subst hp
  refine nw_gen hl fun ok => ?_
  obtain ⟨okM, okL, okS⟩ := ok
  show mw_app (if a = 1000000 then _ else if mw_oa a = true then _ else match (nw_m M).2.2.2.2.1 a with | some (k, n) => if 20 ≤ k ∧ k < 27 then _ else _ | none => _) _ _
  rw [if_neg (by omega), if_neg (nw_oaN hk.1), nw_kd hk]
  show mw_app (if 20 ≤ kk ∧ kk < 27 then _ else _) _ _
  rw [if_pos ⟨hn.1, hn.2.1⟩]
  exact ⟨(_, ls, .inl (n : Int) :: st, M, c, sl), rfl, ⟨okM, okL, nw_okc (show nw_in (n : Int) from ⟨by omega, by omega⟩) fun v hv => okS v (List.mem_cons_of_mem _ hv)⟩, h⟩
theorem nw_lald {len a' b d : Nat} {ps : List Nat} {y' : MethodName} {k : Int32} {a n : Nat} {i : Int} (hl : mw_lk cd pc = some (.laload, len, (a', b, d), ps, y', k)) (p' : Nat) (hp : pc + 1 = p') (hk : a < 303 ∧ mw_kd0 a = some (22, n)) (hi : 0 ≤ i ∧ i < (n : Int)) {v : Int} (hv : M.2.1 a i = v) (h : NW sc cd D (p', ls, .inr (.inr (.inl v)) :: st, M, c, sl) Qr Qx) : NW sc cd D (pc, ls, .inl i :: .inr (.inl (some a)) :: st, M, c, sl) Qr Qx := by
  subst hp
  subst hv
  refine nw_gen hl fun ok => ?_
  obtain ⟨okM, okL, okS⟩ := ok
  have hr : nw_in i := okS _ List.mem_cons_self
  show mw_app (match (nw_m M).2.2.2.2.1 a with | some (k, n) => if k = 22 then _ else _ | none => _) _ _
  rw [nw_kd hk]
  show mw_app (if 22 = 22 then _ else _) _ _
  rw [if_pos rfl]
  refine ⟨nw_vpin hr hi, (_, ls, .inr (.inr (.inl (M.2.1 a i))) :: st, M, c, sl), ?_, ⟨okM, okL, nw_okc (okM.2 a i) fun v hv => okS v (List.mem_cons_of_mem _ (List.mem_cons_of_mem _ hv))⟩, h⟩
  refine congrArg (fun z => (pc + 1, nw_ls ls, Value.long (Int64.ofInt (M.2.1 a z)) :: st.map nw_v, nw_m M, c, sl)) ?_
  rw [nw_cl hr]
  omega
theorem nw_dald {len a' b d : Nat} {ps : List Nat} {y' : MethodName} {k : Int32} {a n : Nat} {i : Int} (hl : mw_lk cd pc = some (.daload, len, (a', b, d), ps, y', k)) (p' : Nat) (hp : pc + 1 = p') (hk : a < 303 ∧ mw_kd0 a = some (23, n)) (hi : 0 ≤ i ∧ i < (n : Int)) {v : UInt64} (hv : M.2.2.1 a i = v) (h : NW sc cd D (p', ls, .inr (.inr (.inr (.inl v))) :: st, M, c, sl) Qr Qx) : NW sc cd D (pc, ls, .inl i :: .inr (.inl (some a)) :: st, M, c, sl) Qr Qx := by
  subst hp
  subst hv
  refine nw_gen hl fun ok => ?_
  obtain ⟨okM, okL, okS⟩ := ok
  have hr : nw_in i := okS _ List.mem_cons_self
  show mw_app (match (nw_m M).2.2.2.2.1 a with | some (k, n) => if k = 23 then _ else _ | none => _) _ _
  rw [nw_kd hk]
  show mw_app (if 23 = 23 then _ else _) _ _
  rw [if_pos rfl]
  refine ⟨nw_vpin hr hi, (_, ls, .inr (.inr (.inr (.inl (M.2.2.1 a i)))) :: st, M, c, sl), ?_, ⟨okM, okL, nw_okc True.intro fun v hv => okS v (List.mem_cons_of_mem _ (List.mem_cons_of_mem _ hv))⟩, h⟩
  refine congrArg (fun z => (pc + 1, nw_ls ls, Value.double (M.2.2.1 a z) :: st.map nw_v, nw_m M, c, sl)) ?_
  rw [nw_cl hr]
  omega
/-- a row of rows: its places lie side by side -/
theorem nw_aald {len a' b d : Nat} {ps : List Nat} {y' : MethodName} {k : Int32} {a n kk v : Nat} {i : Int} (hl : mw_lk cd pc = some (.aaload, len, (a', b, d), ps, y', k)) (p' : Nat) (hp : pc + 1 = p') (hk : a < 303 ∧ mw_kd0 a = some (kk, n)) (hkk : kk = 25 ∨ kk = 26) (hi : 0 ≤ i ∧ i < (n : Int)) (hv : mw_rm0 M.2.2.2.1 M.2.2.2.2.1 a i.toNat = some v) (h : NW sc cd D (p', ls, .inr (.inl (some v)) :: st, M, c, sl) Qr Qx) : NW sc cd D (pc, ls, .inl i :: .inr (.inl (some a)) :: st, M, c, sl) Qr Qx := by
  subst hp
  refine nw_gen hl fun ok => ?_
  obtain ⟨okM, okL, okS⟩ := ok
  have hr : nw_in i := okS _ List.mem_cons_self
  show mw_app (match (nw_m M).2.2.2.2.1 a with | some (k, n) => if k = 25 ∨ k = 26 then _ else _ | none => _) _ _
  rw [nw_kd hk]
  show mw_app (if kk = 25 ∨ kk = 26 then _ else _) _ _
  rw [if_pos hkk]
  refine ⟨nw_vpin hr hi, (_, ls, .inr (.inl (some v)) :: st, M, c, sl), ?_, ⟨okM, okL, nw_okc True.intro fun v hv => okS v (List.mem_cons_of_mem _ (List.mem_cons_of_mem _ hv))⟩, h⟩
  have e9 : mw_rm0 M.2.2.2.1 M.2.2.2.2.1 a (Int32.ofInt i).toNatClampNeg = some v := by rw [nw_cl hr]; exact hv
  exact congrArg (fun z => (pc + 1, nw_ls ls, mw_rv z :: st.map nw_v, nw_m M, c, sl)) e9

theorem nw_iast {len a' b d : Nat} {ps : List Nat} {y' : MethodName} {k : Int32} {a n : Nat} {i v : Int} (hl : mw_lk cd pc = some (.iastore, len, (a', b, d), ps, y', k)) (p' : Nat) (hp : pc + 1 = p') (hk : a < 303 ∧ mw_kd0 a = some (20, n)) (hi : 0 ≤ i ∧ i < (n : Int)) (h : NW sc cd D (p', ls, st, (nw_u M.1 a i v, M.2), c, sl) Qr Qx) : NW sc cd D (pc, ls, .inl v :: .inl i :: .inr (.inl (some a)) :: st, M, c, sl) Qr Qx := by
  subst hp
  refine nw_gen hl fun ok => ?_
  obtain ⟨okM, okL, okS⟩ := ok
  have hv : nw_in v := okS _ List.mem_cons_self
  have hr : nw_in i := okS _ (List.mem_cons_of_mem _ List.mem_cons_self)
  show mw_app (match (nw_m M).2.2.2.2.1 a with | some (k, n) => if k = 20 then _ else _ | none => _) _ _
  rw [nw_kd hk]
  show mw_app (if 20 = 20 then _ else _) _ _
  rw [if_pos rfl]
  refine ⟨nw_vpin hr hi, (_, ls, st, (nw_u M.1 a i v, M.2), c, sl), ?_, ⟨⟨nw_uin okM.1 hv, okM.2⟩, okL, fun v hv => okS v (List.mem_cons_of_mem _ (List.mem_cons_of_mem _ (List.mem_cons_of_mem _ hv)))⟩, h⟩
  exact congrArg (fun z => (pc + 1, nw_ls ls, st.map nw_v, (z, (nw_m M).2), c, sl)) (nw_uM hr hi.1)
theorem nw_cast {len a' b d : Nat} {ps : List Nat} {y' : MethodName} {k : Int32} {a n : Nat} {i v : Int} (hl : mw_lk cd pc = some (.castore, len, (a', b, d), ps, y', k)) (p' : Nat) (hp : pc + 1 = p') (hk : a < 303 ∧ mw_kd0 a = some (21, n)) (hi : 0 ≤ i ∧ i < (n : Int)) (hv : 0 ≤ v ∧ v < 65536) (h : NW sc cd D (p', ls, st, (nw_u M.1 a i v, M.2), c, sl) Qr Qx) : NW sc cd D (pc, ls, .inl v :: .inl i :: .inr (.inl (some a)) :: st, M, c, sl) Qr Qx := by
  subst hp
  refine nw_gen hl fun ok => ?_
  obtain ⟨okM, okL, okS⟩ := ok
  have hv' : nw_in v := okS _ List.mem_cons_self
  have hr : nw_in i := okS _ (List.mem_cons_of_mem _ List.mem_cons_self)
  show mw_app (match (nw_m M).2.2.2.2.1 a with | some (k, n) => if k = 21 then _ else _ | none => _) _ _
  rw [nw_kd hk]
  show mw_app (if 21 = 21 then _ else _) _ _
  rw [if_pos rfl]
  refine ⟨nw_vpin hr hi, (_, ls, st, (nw_u M.1 a i v, M.2), c, sl), ?_, ⟨⟨nw_uin okM.1 hv', okM.2⟩, okL, fun v hv => okS v (List.mem_cons_of_mem _ (List.mem_cons_of_mem _ (List.mem_cons_of_mem _ hv)))⟩, h⟩
  refine congrArg (fun z => (pc + 1, nw_ls ls, st.map nw_v, (z, (nw_m M).2), c, sl)) ?_
  rw [nw_narC hv]
  exact nw_uM hr hi.1
theorem nw_last {len a' b d : Nat} {ps : List Nat} {y' : MethodName} {k : Int32} {a n : Nat} {i v : Int} (hl : mw_lk cd pc = some (.lastore, len, (a', b, d), ps, y', k)) (p' : Nat) (hp : pc + 1 = p') (hk : a < 303 ∧ mw_kd0 a = some (22, n)) (hi : 0 ≤ i ∧ i < (n : Int)) (h : NW sc cd D (p', ls, st, (M.1, nw_u M.2.1 a i v, M.2.2), c, sl) Qr Qx) : NW sc cd D (pc, ls, .inr (.inr (.inl v)) :: .inl i :: .inr (.inl (some a)) :: st, M, c, sl) Qr Qx := by
  subst hp
  refine nw_gen hl fun ok => ?_
  obtain ⟨okM, okL, okS⟩ := ok
  have hv : nw_il v := okS _ List.mem_cons_self
  have hr : nw_in i := okS _ (List.mem_cons_of_mem _ List.mem_cons_self)
  show mw_app (match (nw_m M).2.2.2.2.1 a with | some (k, n) => if k = 22 then _ else _ | none => _) _ _
  rw [nw_kd hk]
  show mw_app (if 22 = 22 then _ else _) _ _
  rw [if_pos rfl]
  refine ⟨nw_vpin hr hi, (_, ls, st, (M.1, nw_u M.2.1 a i v, M.2.2), c, sl), ?_, ⟨⟨okM.1, nw_uin okM.2 hv⟩, okL, fun v hv => okS v (List.mem_cons_of_mem _ (List.mem_cons_of_mem _ (List.mem_cons_of_mem _ hv)))⟩, h⟩
  refine congrArg (fun z => (pc + 1, nw_ls ls, st.map nw_v, ((nw_m M).1, z, (nw_m M).2.2), c, sl)) ?_
  have e := nw_uF (g := Int64.ofInt) (J := M.2.1) (a := a) (i := (Int32.ofInt i).toNatClampNeg) (v := v)
  rw [nw_cl hr, show ((i.toNat : Nat) : Int) = i by omega] at e
  rw [← nw_cl hr] at e
  exact e
theorem nw_dast {len a' b d : Nat} {ps : List Nat} {y' : MethodName} {k : Int32} {a n : Nat} {i : Int} {v : UInt64} (hl : mw_lk cd pc = some (.dastore, len, (a', b, d), ps, y', k)) (p' : Nat) (hp : pc + 1 = p') (hk : a < 303 ∧ mw_kd0 a = some (23, n)) (hi : 0 ≤ i ∧ i < (n : Int)) (h : NW sc cd D (p', ls, st, (M.1, M.2.1, nw_u M.2.2.1 a i v, M.2.2.2), c, sl) Qr Qx) : NW sc cd D (pc, ls, .inr (.inr (.inr (.inl v))) :: .inl i :: .inr (.inl (some a)) :: st, M, c, sl) Qr Qx := by
  subst hp
  refine nw_gen hl fun ok => ?_
  obtain ⟨okM, okL, okS⟩ := ok
  have hr : nw_in i := okS _ (List.mem_cons_of_mem _ List.mem_cons_self)
  show mw_app (match (nw_m M).2.2.2.2.1 a with | some (k, n) => if k = 23 then _ else _ | none => _) _ _
  rw [nw_kd hk]
  show mw_app (if 23 = 23 then _ else _) _ _
  rw [if_pos rfl]
  refine ⟨nw_vpin hr hi, (_, ls, st, (M.1, M.2.1, nw_u M.2.2.1 a i v, M.2.2.2), c, sl), ?_, ⟨okM, okL, fun v hv => okS v (List.mem_cons_of_mem _ (List.mem_cons_of_mem _ (List.mem_cons_of_mem _ hv)))⟩, h⟩
  refine congrArg (fun z => (pc + 1, nw_ls ls, st.map nw_v, ((nw_m M).1, (nw_m M).2.1, z, (nw_m M).2.2.2), c, sl)) ?_
  have e := nw_uF (g := fun z : UInt64 => z) (J := M.2.2.1) (a := a) (i := (Int32.ofInt i).toNatClampNeg) (v := v)
  rw [nw_cl hr, show ((i.toNat : Nat) : Int) = i by omega] at e
  rw [← nw_cl hr] at e
  exact e
theorem nw_fitB {x : Int} (h : -128 ≤ x ∧ x < 128) : fits .byte (.int (Int32.ofInt x)) = true := by
  have hx : nw_in x := ⟨by omega, by omega⟩
  show (decide ((-128 : Int32) ≤ Int32.ofInt x) && decide (Int32.ofInt x ≤ 127)) = true
  rw [Bool.and_eq_true, decide_eq_true_eq, decide_eq_true_eq, show (-128 : Int32) = Int32.ofInt (-128) from rfl, show (127 : Int32) = Int32.ofInt 127 from rfl, nw_le ⟨by decide, by decide⟩ hx, nw_le hx ⟨by decide, by decide⟩]
  omega
theorem nw_acopyX {kk : Nat} {ix : Nat} {len a' d : Nat} {ps : List Nat} {y' : MethodName} {k : Int32} {a b na nb : Nat} {sp dp n : Int} (hl : mw_lk cd pc = some (.invokestatic ix, len, (a', 9, d), ps, y', k)) (p' : Nat) (hp : pc + 3 = p') (hb' : nw_cats st ≤ 8) (hkk : kk = 20 ∨ kk = 24) (hka : (nw_m M).2.2.2.2.1 a = some (kk, na)) (hkb : (nw_m M).2.2.2.2.1 b = some (kk, nb)) (hfB : kk = 24 → ∀ i : Int, 0 ≤ i → i < n → -128 ≤ M.1 a (sp + i) ∧ M.1 a (sp + i) < 128) (hr : 0 ≤ sp ∧ 0 ≤ dp ∧ 0 ≤ n ∧ sp + n ≤ na ∧ dp + n ≤ nb) (h : NW sc cd D (p', ls, st, (nw_cp M.1 a b sp dp n, M.2), c, sl) Qr Qx) : NW sc cd D (pc, ls, .inl n :: .inl dp :: .inr (.inl (some b)) :: .inl sp :: .inr (.inl (some a)) :: st, M, c, sl) Qr Qx := by
  subst hp
  refine nw_gen hl fun ok => ?_
  obtain ⟨okM, okL, okS⟩ := ok
  have hn : nw_in n := okS _ List.mem_cons_self
  have hd : nw_in dp := okS _ (List.mem_cons_of_mem _ List.mem_cons_self)
  have hs : nw_in sp := okS _ (List.mem_cons_of_mem _ (List.mem_cons_of_mem _ (List.mem_cons_of_mem _ List.mem_cons_self)))
  have h0 : nw_in 0 := ⟨by decide, by decide⟩
  have hcc : 9 = 9 ∧ mw_cats (.int (Int32.ofInt n) :: .int (Int32.ofInt dp) :: .ref b :: .int (Int32.ofInt sp) :: .ref a :: st.map nw_v) ≤ 13 := ⟨rfl, by
    have hb : mw_cats (st.map nw_v) ≤ 8 := (nw_cats_eq st).symm ▸ hb'
    have e9 : mw_cats (.int (Int32.ofInt n) :: .int (Int32.ofInt dp) :: .ref b :: .int (Int32.ofInt sp) :: .ref a :: st.map nw_v) = 1 + (1 + (1 + (1 + (1 + mw_cats (st.map nw_v))))) := rfl
    omega⟩
  refine Eq.mpr (congrArg (fun z => mw_app z _ _) (if_pos hcc)) ?_
  show mw_app (match (nw_m M).2.2.2.2.1 a, (nw_m M).2.2.2.2.1 b with | some (k0, n0), some (k1, n1) => if (k0 = 20 ∧ k1 = 20) ∨ (k0 = 24 ∧ k1 = 24) then _ else _ | none, some (k1, n1) => _ | _, _ => _) _ _
  rw [hka, hkb]
  show mw_app (if (kk = 20 ∧ kk = 20) ∨ (kk = 24 ∧ kk = 24) then _ else _) _ _
  rw [if_pos (hkk.elim (fun e => Or.inl ⟨e, e⟩) (fun e => Or.inr ⟨e, e⟩))]
  have q0 : ∀ x : Int, nw_in x → 0 ≤ x → ¬ Int32.ofInt x < 0 := fun x hx h9 => by rw [show (0 : Int32) = Int32.ofInt 0 from rfl, nw_lt hx h0]; omega
  refine ⟨⟨q0 _ hs hr.1, q0 _ hd hr.2.1, q0 _ hn hr.2.2.1, by rw [nw_cl hs, nw_cl hn]; omega, by rw [nw_cl hd, nw_cl hn]; omega, fun e i hi => ?_⟩, (_, ls, st, (nw_cp M.1 a b sp dp n, M.2), c, sl), ?_, ⟨⟨fun x k => ?_, okM.2⟩, okL, fun v hv => okS v (List.mem_cons_of_mem _ (List.mem_cons_of_mem _ (List.mem_cons_of_mem _ (List.mem_cons_of_mem _ (List.mem_cons_of_mem _ hv)))))⟩, h⟩
  · rw [nw_cl hn] at hi
    rw [nw_cl hs]
    have := hfB e i (by omega) (by omega)
    rw [show sp + (i : Int) = ((sp.toNat + i : Nat) : Int) by omega] at this
    exact nw_fitB this
  · refine congrArg (fun z => (pc + 3, nw_ls ls, st.map nw_v, (z, (nw_m M).2), c, sl)) ?_
    rw [nw_cl hs, nw_cl hd, nw_cl hn]
    funext x y
    show (if x = b then va_cpy (fun k => Int32.ofInt (M.1 a k)) (fun k => Int32.ofInt (M.1 b k)) _ _ _ else fun k => Int32.ofInt (M.1 x k)) y = Int32.ofInt (nw_cp M.1 a b sp dp n x y)
    unfold nw_cp va_cpy
    by_cases e : x = b
    · subst e
      rw [if_pos rfl, if_pos rfl]
      by_cases e2 : dp.toNat ≤ y ∧ y < dp.toNat + n.toNat
      · rw [if_pos e2, if_pos (by omega)]
        show Int32.ofInt (M.1 a ((sp.toNat + (y - dp.toNat) : Nat) : Int)) = _
        rw [show ((sp.toNat + (y - dp.toNat) : Nat) : Int) = sp + (y - dp) by omega]
      · rw [if_neg e2, if_neg (by omega)]
    · rw [if_neg e, if_neg e]
  · show nw_in (nw_cp M.1 a b sp dp n x k)
    unfold nw_cp
    split
    · split
      · exact okM.1 _ _
      · exact okM.1 _ _
    · exact okM.1 _ _
theorem nw_acopy {ix : Nat} {len a' d : Nat} {ps : List Nat} {y' : MethodName} {k : Int32} {a b na nb : Nat} {sp dp n : Int} (hl : mw_lk cd pc = some (.invokestatic ix, len, (a', 9, d), ps, y', k)) (p' : Nat) (hp : pc + 3 = p') (hb' : nw_cats st ≤ 8) (hka : a < 303 ∧ mw_kd0 a = some (20, na)) (hkb : b < 303 ∧ mw_kd0 b = some (20, nb)) (hr : 0 ≤ sp ∧ 0 ≤ dp ∧ 0 ≤ n ∧ sp + n ≤ na ∧ dp + n ≤ nb) (h : NW sc cd D (p', ls, st, (nw_cp M.1 a b sp dp n, M.2), c, sl) Qr Qx) : NW sc cd D (pc, ls, .inl n :: .inl dp :: .inr (.inl (some b)) :: .inl sp :: .inr (.inl (some a)) :: st, M, c, sl) Qr Qx :=
  nw_acopyX hl p' hp hb' (Or.inl rfl) (nw_kd hka) (nw_kd hkb) (fun e => absurd e (by decide)) hr h

theorem nw_ireturn {len a b d : Nat} {ps : List Nat} {y' : MethodName} {k : Int32} {x : Int} (hl : mw_lk cd pc = some (.ireturn, len, (a, b, d), ps, y', k)) (hr : cd.2.2.2.1 = some .int) (h : Qr (some (.inl x)) M) : NW sc cd D (pc, ls, [.inl x], M, c, sl) Qr Qx := by
  refine nw_gen hl fun ok => ?_
  obtain ⟨okM, okL, okS⟩ := ok
  show mw_app (if cd.2.2.2.1 = some .int then _ else _) _ _
  rw [if_pos hr]
  exact ⟨some (.inl x), M, rfl, rfl, okM, fun v hv => by cases hv; exact okS _ List.mem_cons_self, h⟩
theorem nw_ireturnZ {len a b d : Nat} {ps : List Nat} {y' : MethodName} {k : Int32} {x : Int} (hl : mw_lk cd pc = some (.ireturn, len, (a, b, d), ps, y', k)) (hr : cd.2.2.2.1 = some .boolean) (hx : x = 0 ∨ x = 1) (h : Qr (some (.inl x)) M) : NW sc cd D (pc, ls, [.inl x], M, c, sl) Qr Qx := by
  refine nw_gen hl fun ok => ?_
  obtain ⟨okM, okL, okS⟩ := ok
  show mw_app (if cd.2.2.2.1 = some .int then _ else _) _ _
  rw [if_neg (by rw [hr]; intro e; cases e)]
  refine ⟨⟨.boolean, hr, ?_⟩, some (.inl x), M, rfl, rfl, okM, fun v hv => by cases hv; exact okS _ List.mem_cons_self, h⟩
  rcases hx with rfl | rfl <;> rfl
theorem nw_ireturnC {len a b d : Nat} {ps : List Nat} {y' : MethodName} {k : Int32} {x : Int} (hl : mw_lk cd pc = some (.ireturn, len, (a, b, d), ps, y', k)) (hr : cd.2.2.2.1 = some .char) (hx : 0 ≤ x ∧ x < 65536) (h : Qr (some (.inl x)) M) : NW sc cd D (pc, ls, [.inl x], M, c, sl) Qr Qx := by
  refine nw_gen hl fun ok => ?_
  obtain ⟨okM, okL, okS⟩ := ok
  show mw_app (if cd.2.2.2.1 = some .int then _ else _) _ _
  rw [if_neg (by rw [hr]; intro e; cases e)]
  refine ⟨⟨.char, hr, ?_⟩, some (.inl x), M, rfl, rfl, okM, fun v hv => by cases hv; exact okS _ List.mem_cons_self, h⟩
  exact congrArg Value.int (show (Int32.ofInt x).toUInt32.toUInt16.toUInt32.toInt32 = Int32.ofInt x from nw_narC hx)
theorem nw_lreturn {len a b d : Nat} {ps : List Nat} {y' : MethodName} {k : Int32} {x : Int} (hl : mw_lk cd pc = some (.lreturn, len, (a, b, d), ps, y', k)) (hr : cd.2.2.2.1 = some .long) (h : Qr (some (.inr (.inr (.inl x)))) M) : NW sc cd D (pc, ls, [.inr (.inr (.inl x))], M, c, sl) Qr Qx := by
  refine nw_gen hl fun ok => ?_
  obtain ⟨okM, okL, okS⟩ := ok
  show mw_app (if cd.2.2.2.1 = some .long then _ else _) _ _
  rw [if_pos hr]
  exact ⟨some (.inr (.inr (.inl x))), M, rfl, rfl, okM, fun v hv => by cases hv; exact okS _ List.mem_cons_self, h⟩
theorem nw_freturn {len a b d : Nat} {ps : List Nat} {y' : MethodName} {k : Int32} {x : UInt32} (hl : mw_lk cd pc = some (.freturn, len, (a, b, d), ps, y', k)) (hr : cd.2.2.2.1 = some .float) (h : Qr (some (.inr (.inr (.inr (.inr x))))) M) : NW sc cd D (pc, ls, [.inr (.inr (.inr (.inr x)))], M, c, sl) Qr Qx := by
  refine nw_gen hl fun ok => ?_
  obtain ⟨okM, okL, okS⟩ := ok
  show mw_app (if cd.2.2.2.1 = some .float then _ else _) _ _
  rw [if_pos hr]
  exact ⟨some (.inr (.inr (.inr (.inr x)))), M, rfl, rfl, okM, fun v hv => by cases hv; exact True.intro, h⟩
theorem nw_dreturn {len a b d : Nat} {ps : List Nat} {y' : MethodName} {k : Int32} {x : UInt64} (hl : mw_lk cd pc = some (.dreturn, len, (a, b, d), ps, y', k)) (hr : cd.2.2.2.1 = some .double) (h : Qr (some (.inr (.inr (.inr (.inl x))))) M) : NW sc cd D (pc, ls, [.inr (.inr (.inr (.inl x)))], M, c, sl) Qr Qx := by
  refine nw_gen hl fun ok => ?_
  obtain ⟨okM, okL, okS⟩ := ok
  show mw_app (if cd.2.2.2.1 = some .double then _ else _) _ _
  rw [if_pos hr]
  exact ⟨some (.inr (.inr (.inr (.inl x)))), M, rfl, rfl, okM, fun v hv => by cases hv; exact True.intro, h⟩
theorem nw_areturn {len a b d : Nat} {ps : List Nat} {y' : MethodName} {k : Int32} {x : Nat} (hl : mw_lk cd pc = some (.areturn, len, (a, b, d), ps, y', k)) (hr : mw_isref cd.2.2.2.1 = true) (h : Qr (some (.inr (.inl (some x)))) M) : NW sc cd D (pc, ls, [.inr (.inl (some x))], M, c, sl) Qr Qx := by
  refine nw_gen hl fun ok => ?_
  obtain ⟨okM, okL, okS⟩ := ok
  show mw_app (if mw_isref cd.2.2.2.1 = true then _ else _) _ _
  rw [if_pos hr]
  exact ⟨some (.inr (.inl (some x))), M, rfl, rfl, okM, fun v hv => by cases hv; exact True.intro, h⟩
theorem nw_return {len a b d : Nat} {ps : List Nat} {y' : MethodName} {k : Int32} (hl : mw_lk cd pc = some (.return_, len, (a, b, d), ps, y', k)) (hr : cd.2.2.2.1 = none) (h : Qr none M) : NW sc cd D (pc, ls, [], M, c, sl) Qr Qx := by
  refine nw_gen hl fun ok => ?_
  obtain ⟨okM, okL, okS⟩ := ok
  show mw_app (if cd.2.2.2.1 = none then _ else _) _ _
  rw [if_pos hr]
  exact ⟨none, M, rfl, rfl, okM, (fun v hv => by cases hv), h⟩

def nw_ckc (q : mw_I) (cd' : mw_CD) (st : List nw_V) : Bool := mw_isinv q.1 && (Nat.blt q.2.2.1.2.1 8 && (Nat.ble q.2.2.1.1 st.length && (Nat.ble (nw_cats (st.drop q.2.2.1.1)) 8 && ((st.take q.2.2.1.1).all (fun v => Nat.beq (nw_cat v) 1) && (Nat.ble q.2.2.1.1 cd'.2.2.1 && (bif Nat.beq q.2.2.1.2.1 5 then !cd'.2.2.2.2.2.isEmpty else cd'.2.2.2.2.2.isEmpty))))))
theorem nw_ckc_ok {q : mw_I} {cd' : mw_CD} {st : List nw_V} (h : nw_ckc q cd' st = true) : mw_ck q cd' (st.map nw_v) = true := by
  unfold nw_ckc at h
  simp only [Bool.and_eq_true] at h
  obtain ⟨h1, h2, h3, h4, h5, h6, h7⟩ := h
  unfold mw_ck
  simp only [Bool.and_eq_true, decide_eq_true_eq]
  refine ⟨⟨⟨⟨⟨⟨h1, Nat.blt_eq.mp h2⟩, ?_⟩, ?_⟩, ?_⟩, Nat.ble_eq.mp h6⟩, ?_⟩
  · rw [List.length_map]
    exact Nat.ble_eq.mp h3
  · rw [← List.map_drop, nw_cats_eq]
    exact Nat.ble_eq.mp h4
  · rw [← List.map_take, List.all_eq_true]
    intro v hv
    obtain ⟨w, hw, rfl⟩ := List.mem_map.mp hv
    have := List.all_eq_true.mp h5 w hw
    rw [decide_eq_true_eq, nw_cat_eq]
    exact Nat.eq_of_beq_eq_true this
  · by_cases e : q.2.2.1.2.1 = 5
    · rw [if_pos e]
      rw [e] at h7
      exact h7
    · rw [if_neg e]
      have : Nat.beq q.2.2.1.2.1 5 = false := by
        cases z : Nat.beq q.2.2.1.2.1 5 with
        | false => rfl
        | true => exact absurd (Nat.eq_of_beq_eq_true z) e
      rw [this] at h7
      exact h7
def nw_recv (q : mw_I) (a : Nat) (st : List nw_V) (hk : Nat → Option (Nat × Nat)) : Prop := match q.1 with
  | .invokevirtual _ => (∃ n, st[q.2.2.1.1 - 1]? = some (.inr (.inl (some a))) ∧ a < 303 ∧ hk a = some (q.2.2.1.2.2, n)) ∨ (q.2.2.1.2.2 = 0 ∧ st[q.2.2.1.1 - 1]? = some (.inr (.inl (some a))) ∧ 1000001 ≤ a ∧ a < 1000031)
  | .invokeinterface _ _ => False
  | .invokespecial _ => st[q.2.2.1.1 - 1]? = some (.inr (.inl (some a))) ∧ (q.2.2.1.2.1 = 6 → ∃ n, a < 303 ∧ hk a = some (q.2.2.1.2.2, n))
  | _ => True
theorem nw_call {cd' : mw_CD} {q : mw_I} (D' mc ms : Nat) (a : Nat) (hl : mw_lk cd pc = some q) (hb : nw_ckc q cd' st = true) (hn : q.2.2.2.2.1 = cd'.1) (hg : mw_Good cd') (hD : D' < D) (hh : nw_hok cd = true) (hc : mc ≤ c) (hs : ms ≤ sl) (hr : nw_recv q a st mw_kd0) {ls' : List (Option nw_V)} (he : nw_entry cd'.2.2.1 (st.take q.2.2.1.1).reverse = ls') {st' : List nw_V} (hst : st.drop q.2.2.1.1 = st') (p' : Nat) (hp : pc + 3 = p') {c' sl' : Nat} (hc' : c - mc = c') (hs' : sl - ms = sl')
    (h : NW sc cd' D' (0, ls', [], M, mc, ms) (fun v M9 => NW sc cd D (p', ls, nw_push v st', M9, c', sl') Qr Qx) (fun e M9 => nw_hx cd pc e Qr Qx M9)) : NW sc cd D (pc, ls, st, M, c, sl) Qr Qx := by
  subst hp he hst hc' hs'
  refine eq_true fun ok => ?_
  obtain ⟨okM, okL, okS⟩ := ok
  have hrv : mw_recv q (st.map nw_v) (nw_m M) := by
    unfold mw_recv
    unfold nw_recv at hr
    split at hr
    · rename_i e
      rw [e]
      rcases hr with ⟨n, h1, h2⟩ | ⟨h0, h1, h2⟩
      · exact Or.inl ⟨a, n, by rw [List.getElem?_map, h1]; rfl, nw_kd h2⟩
      · exact Or.inr (Or.inl ⟨h0, a, by rw [List.getElem?_map, h1]; rfl, h2⟩)
    · exact hr.elim
    · rename_i e
      rw [e]
      exact ⟨a, by rw [List.getElem?_map, hr.1]; rfl, fun e6 => (hr.2 e6).elim fun n h2 => ⟨n, nw_kd h2⟩⟩
    · rename_i e1 e3 e2
      split
      · rename_i i e
        exact absurd e (e1 i)
      · rename_i i j e
        exact absurd e (e3 i j)
      · rename_i i e
        exact absurd e (e2 i)
      · exact True.intro
  refine mw_Wp.cal q cd' D' mc ms hl (nw_ckc_ok hb) hn hg hD hc hs hrv ?_
  have oke : nw_ok (0, nw_entry cd'.2.2.1 (st.take q.2.2.1.1).reverse, [], M, mc, ms) := ⟨okM, (fun v hv => by
    rcases List.mem_append.mp hv with hv | hv
    · obtain ⟨w, hw, e⟩ := List.mem_map.mp hv
      cases e
      exact okS _ (List.mem_of_mem_take (List.mem_reverse.mp hw))
    · have := List.eq_of_mem_replicate hv
      cases this), (fun v hv => by cases hv)⟩
  have h1 := of_eq_true h oke
  have e1 : nw_f (0, nw_entry cd'.2.2.1 (st.take q.2.2.1.1).reverse, [], M, mc, ms) = (0, mw_entry cd'.2.2.1 ((st.map nw_v).take q.2.2.1.1).reverse, [], nw_m M, mc, ms) := by
    refine congrArg (fun z => (0, z, [], nw_m M, mc, ms)) ?_
    unfold nw_ls nw_entry mw_entry
    simp [List.map_append, List.map_reverse, List.map_take, Function.comp_def]
  rw [e1] at h1
  refine mw_Wp.mono h1 ?_ ?_
  · rintro v N ⟨w, N', rfl, rfl, okN, okw, hw⟩
    have h2 := of_eq_true hw ⟨okN, okL, fun x hx => by
      cases w with
      | none => exact okS x (List.mem_of_mem_drop hx)
      | some w => exact (List.mem_cons.mp hx).elim (fun e => e ▸ okw w rfl) (fun hx => okS x (List.mem_of_mem_drop hx))⟩
    have e2 : (nw_push w (st.drop q.2.2.1.1)).map nw_v = (w.map nw_v).toList ++ (st.map nw_v).drop q.2.2.1.1 := by
      cases w <;> simp [nw_push, List.map_drop]
    have e3 : nw_f (pc + 3, ls, nw_push w (st.drop q.2.2.1.1), N', c - mc, sl - ms) = (pc + 3, nw_ls ls, (w.map nw_v).toList ++ (st.map nw_v).drop q.2.2.1.1, nw_m N', c - mc, sl - ms) := by rw [← e2]; rfl
    rw [e3] at h2
    exact h2
  · rintro e N ⟨N', rfl, okN, hx⟩
    unfold mw_hx
    unfold nw_hx at hx
    cases z : mw_hfind cd.2.2.2.2.2 pc e with
    | none =>
      rw [z] at hx
      exact ⟨N', rfl, okN, hx⟩
    | some k =>
      rw [z] at hx
      exact ⟨some (.inl k), N', rfl, rfl, okN, (fun x hx => by cases hx; exact nw_hsmall hh z), hx⟩
/-- the same of a callee that makes nothing -/
theorem nw_call0 {cd' : mw_CD} {q : mw_I} (D' : Nat) (a : Nat) (hl : mw_lk cd pc = some q) (hb : nw_ckc q cd' st = true) (hn : q.2.2.2.2.1 = cd'.1) (hg : mw_Good cd') (hD : D' < D) (hh : nw_hok cd = true) (hr : nw_recv q a st mw_kd0) {ls' : List (Option nw_V)} (he : nw_entry cd'.2.2.1 (st.take q.2.2.1.1).reverse = ls') {st' : List nw_V} (hst : st.drop q.2.2.1.1 = st') (p' : Nat) (hp : pc + 3 = p')
    (h : NW sc cd' D' (0, ls', [], M, 0, 0) (fun v M9 => NW sc cd D (p', ls, nw_push v st', M9, c, sl) Qr Qx) (fun e M9 => nw_hx cd pc e Qr Qx M9)) : NW sc cd D (pc, ls, st, M, c, sl) Qr Qx :=
  nw_call D' 0 0 a hl hb hn hg hD hh (Nat.zero_le _) (Nat.zero_le _) hr he hst p' hp rfl rfl h
theorem nw_throw {q : mw_I} (e : Nat) (hl : mw_lk cd pc = some q) (hq : mw_isnew q.1 = true ∧ q.2.2.1.2.2 = 1 ∧ q.2.2.1.1 = e ∧ nw_cats st ≤ 8 ∧ cd.2.2.2.2.2.isEmpty = true) (hc : 1 ≤ c) (hs : 6 ≤ sl) (h : ∀ n', M.2.2.2.2.2.2 ≤ n' → Qx e (M.1, M.2.1, nw_top M.2.2 n')) : NW sc cd D (pc, ls, st, M, c, sl) Qr Qx := by
  refine eq_true fun ok => mw_Wp.thr ?_
  obtain ⟨okM, okL, okS⟩ := ok
  obtain ⟨h1, h2, rfl, h4, h5⟩ := hq
  exact ⟨q, hl, h1, h2, hc, hs, (nw_cats_eq st).symm ▸ h4, h5, fun n' hn => ⟨(M.1, M.2.1, nw_top M.2.2 n'), rfl, okM, h n' hn⟩⟩
def nw_lz : List (Option nw_V) → List (Option nw_V) → Prop
  | [], [] => True
  | none :: r, _ :: s => True ∧ nw_lz r s
  | some v :: r, some w :: s => v = w ∧ nw_lz r s
  | _, _ => False
theorem nw_lz_mw : ∀ {r s : List (Option nw_V)}, nw_lz r s → mw_le (nw_ls r) (nw_ls s)
  | [], [], _ => True.intro
  | none :: _, _ :: _, h => ⟨True.intro, nw_lz_mw h.2⟩
  | some _ :: _, some _ :: _, h => ⟨congrArg nw_v h.1, nw_lz_mw h.2⟩
  | [], _ :: _, h => by simp [nw_lz] at h
  | none :: _, [], h => by simp [nw_lz] at h
  | some _ :: _, [], h => by simp [nw_lz] at h
  | some _ :: _, none :: _, h => by simp [nw_lz] at h
theorem nw_lz_in : ∀ {r s : List (Option nw_V)}, nw_lz r s → ∀ v, some v ∈ r → some v ∈ s
  | [], [], _, _, h => h
  | none :: _, _ :: _, h, v, hv => by
    rcases List.mem_cons.mp hv with e | hv
    · cases e
    · exact List.mem_cons_of_mem _ (nw_lz_in h.2 v hv)
  | some _ :: _, some _ :: _, h, v, hv => by
    rcases List.mem_cons.mp hv with e | hv
    · rw [e, h.1]
      exact List.mem_cons_self
    · exact List.mem_cons_of_mem _ (nw_lz_in h.2 v hv)
  | [], _ :: _, h, _, _ => by simp [nw_lz] at h
  | none :: _, [], h, _, _ => by simp [nw_lz] at h
  | some _ :: _, [], h, _, _ => by simp [nw_lz] at h
  | some _ :: _, none :: _, h, _, _ => by simp [nw_lz] at h
theorem nw_drop {ls' : List (Option nw_V)} (hl : nw_lz ls' ls) (h : NW sc cd D (pc, ls', st, M, c, sl) Qr Qx) : NW sc cd D (pc, ls, st, M, c, sl) Qr Qx := nw_wk (nw_lz_mw hl) (nw_lz_in hl) h
end

