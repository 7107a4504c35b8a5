/-! texts put together: a machine that can be run, with answers -/
abbrev ky_V : Type := Int32 ⊕ Option Nat
abbrev ky_F : Type := Nat × List (Option ky_V) × List ky_V × kx_M × Nat × Nat
def ky_v (v : ky_V) : Value := match v with
  | .inl x => .int x
  | .inr (some a) => .ref a
  | .inr none => .null
abbrev ky_l (ls : List (Option ky_V)) : List (Option Value) := ls.map (fun v => v.map ky_v)
def ky_f (f : ky_F) : mw_Fr := (f.1, ky_l f.2.1, f.2.2.1.map ky_v, kx_m f.2.2.2.1, f.2.2.2.2.1, f.2.2.2.2.2)
def ky_cmp (cd : ClassFile.Cond) (x y : Int32) : Bool := match cd with
  | .eq => decide (x = y)
  | .ne => !decide (x = y)
  | .lt => decide (x < y)
  | .ge => decide (y ≤ x)
  | .gt => decide (y < x)
  | .le => decide (x ≤ y)
theorem ky_cmp_ok {cd : ClassFile.Cond} {x y : Int32} : ky_cmp cd x y = true ↔ mw_cmp cd x y := by
  cases cd <;> simp [ky_cmp, mw_cmp]
/-- n ints written from dp on -/
def ky_cpw (b : Nat) (f : Nat → Int32) (dp : Nat) : Nat → List (Nat × Option (Nat × Int32))
  | 0 => []
  | n + 1 => (b, some (dp + n, f n)) :: ky_cpw b f dp n
theorem ky_cpw_ok {b : Nat} {f : Nat → Int32} {dp : Nat} {IL : List (Nat × Option (Nat × Int32))} {x y : Nat} : ∀ {n : Nat}, kx_iF (ky_cpw b f dp n ++ IL) x y = if x = b ∧ dp ≤ y ∧ y < dp + n then f (y - dp) else kx_iF IL x y
  | 0 => by
    rw [if_neg (by omega)]
    rfl
  | n + 1 => by
    have ih := ky_cpw_ok (b := b) (f := f) (dp := dp) (IL := IL) (x := x) (y := y) (n := n)
    show mw_u (kx_iF (ky_cpw b f dp n ++ IL)) b (dp + n) (f n) x y = _
    unfold mw_u
    by_cases e : x = b
    · rw [if_pos e]
      by_cases e2 : y = dp + n
      · rw [if_pos e2, if_pos ⟨e, by omega, by omega⟩, show y - dp = n by omega]
      · rw [if_neg e2, ih]
        by_cases e3 : dp ≤ y ∧ y < dp + n
        · rw [if_pos ⟨e, e3⟩, if_pos ⟨e, by omega, by omega⟩]
        · rw [if_neg (fun q => e3 q.2), if_neg (fun q => e3 ⟨q.2.1, by omega⟩)]
    · rw [if_neg e, ih, if_neg (fun q => e q.1), if_neg (fun q => e q.1)]
def ky_wI (m : kx_M) (a k : Nat) (x : Int32) : kx_M := ((a, some (k, x)) :: m.1, m.2)
def ky_wR (m : kx_M) (a k x : Nat) : kx_M := (m.1, (a, some (k, some x)) :: m.2.1, m.2.2)
/-- one step -/
def ky_st (q : mw_I) (pc : Nat) (ls : List (Option ky_V)) (st : List ky_V) (m : kx_M) (c sl : Nat) : Option ky_F :=
  match q.1 with
  | .iconst _ => some (pc + 1, ls, .inl q.2.2.2.2.2 :: st, m, c, sl)
  | .bipush _ => some (pc + 2, ls, .inl q.2.2.2.2.2 :: st, m, c, sl)
  | .sipush _ => some (pc + 3, ls, .inl q.2.2.2.2.2 :: st, m, c, sl)
  | .ldc _ => if q.2.2.1.1 = 1 then none else some (pc + 2, ls, .inl q.2.2.2.2.2 :: st, m, c, sl)
  | .getstatic _ => match q.2.2.1.1 with
    | 0 => some (pc + 3, ls, .inl 1 :: st, m, c, sl)
    | 1 => some (pc + 3, ls, .inr (some 1000201) :: st, m, c, sl)
    | 2 => some (pc + 3, ls, .inr (some 1000202) :: st, m, c, sl)
    | _ => none
  | .aconst_null => some (pc + 1, ls, .inr none :: st, m, c, sl)
  | .iload_n _ | .iload _ => match ls[q.2.2.1.1]? with
    | some (some (.inl x)) => some (pc + q.2.1, ls, .inl x :: st, m, c, sl)
    | _ => none
  | .aload_n _ | .aload _ => match ls[q.2.2.1.1]? with
    | some (some (.inr (some x))) => some (pc + q.2.1, ls, .inr (some x) :: st, m, c, sl)
    | _ => none
  | .istore_n _ | .istore _ => match st with
    | .inl x :: r => if q.2.2.1.1 < ls.length then some (pc + q.2.1, ls.set q.2.2.1.1 (some (.inl x)), r, m, c, sl) else none
    | _ => none
  | .astore_n _ | .astore _ => match st with
    | .inr (some x) :: r => if q.2.2.1.1 < ls.length then some (pc + q.2.1, ls.set q.2.2.1.1 (some (.inr (some x))), r, m, c, sl) else none
    | _ => none
  | .iinc _ _ => match ls[q.2.2.1.1]? with
    | some (some (.inl x)) => if q.2.2.1.1 < ls.length then some (pc + 3, ls.set q.2.2.1.1 (some (.inl (x + q.2.2.2.2.2))), st, m, c, sl) else none
    | _ => none
  | .iadd => match st with
    | .inl y :: .inl x :: r => some (pc + 1, ls, .inl (x + y) :: r, m, c, sl)
    | _ => none
  | .isub => match st with
    | .inl y :: .inl x :: r => some (pc + 1, ls, .inl (x - y) :: r, m, c, sl)
    | _ => none
  | .imul => match st with
    | .inl y :: .inl x :: r => some (pc + 1, ls, .inl (x * y) :: r, m, c, sl)
    | _ => none
  | .ishl => match st with
    | .inl y :: .inl x :: r => some (pc + 1, ls, .inl (x <<< (y &&& 31)) :: r, m, c, sl)
    | _ => none
  | .ishr => match st with
    | .inl y :: .inl x :: r => some (pc + 1, ls, .inl (x >>> (y &&& 31)) :: r, m, c, sl)
    | _ => none
  | .idiv => match st with
    | .inl y :: .inl x :: r => if y = 0 then none else some (pc + 1, ls, .inl (x / y) :: r, m, c, sl)
    | _ => none
  | .ineg => match st with
    | .inl x :: r => some (pc + 1, ls, .inl (-x) :: r, m, c, sl)
    | _ => none
  | .dup => match st with
    | .inl x :: r => some (pc + 1, ls, .inl x :: .inl x :: r, m, c, sl)
    | .inr (some x) :: r => some (pc + 1, ls, .inr (some x) :: .inr (some x) :: r, m, c, sl)
    | _ => none
  | .pop => match st with
    | .inl _ :: r => some (pc + 1, ls, r, m, c, sl)
    | .inr (some _) :: r => some (pc + 1, ls, r, m, c, sl)
    | _ => none
  | .if_icmp cd _ => match st with
    | .inl y :: .inl x :: r => some (if ky_cmp cd x y = true then q.2.2.1.1 else pc + 3, ls, r, m, c, sl)
    | _ => none
  | .ifCond cd _ => match st with
    | .inl x :: r => some (if ky_cmp cd x 0 = true then q.2.2.1.1 else pc + 3, ls, r, m, c, sl)
    | _ => none
  | .ifnonnull _ => match st with
    | .inr (some _) :: r => some (q.2.2.1.1, ls, r, m, c, sl)
    | _ => none
  | .goto _ => some (q.2.2.1.1, ls, st, m, c, sl)
  | .getfield _ => match st with
    | .inr (some a) :: r => if 1000001 ≤ a ∧ a < 1000031 then (if q.2.2.1.1 = 0 then (match q.2.2.1.2.1 with
      | 0 => some (pc + 3, ls, .inr (some (a + 100)) :: r, m, c, sl)
      | 1 => some (pc + 3, ls, .inl 0 :: r, m, c, sl)
      | _ => none) else none) else (match kx_kF m.2.2.1 a with
      | some (k, _) => if k = q.2.2.1.1 then (if q.2.2.1.2.2 = 2 then (match kx_rF m.2.1 a q.2.2.1.2.1 with
        | some b => some (pc + 3, ls, .inr (some b) :: r, m, c, sl)
        | none => none) else (if q.2.2.1.2.2 = 0 ∨ q.2.2.1.2.2 = 3 then some (pc + 3, ls, .inl (kx_iF m.1 a q.2.2.1.2.1) :: r, m, c, sl) else none)) else none
      | none => none)
    | _ => none
  | .putfield _ => match st with
    | .inl x :: .inr (some a) :: r => (match kx_kF m.2.2.1 a with
      | some (k, _) => if k = q.2.2.1.1 ∧ (q.2.2.1.2.2 = 0 ∨ (q.2.2.1.2.2 = 3 ∧ (x = 0 ∨ x = 1))) then some (pc + 3, ls, r, ky_wI m a q.2.2.1.2.1 x, c, sl) else none
      | none => none)
    | .inr (some x) :: .inr (some a) :: r => (match kx_kF m.2.2.1 a with
      | some (k, _) => if k = q.2.2.1.1 ∧ q.2.2.1.2.2 = 2 then some (pc + 3, ls, r, ky_wR m a q.2.2.1.2.1 x, c, sl) else none
      | none => none)
    | _ => none
  | .arraylength => match st with
    | .inr (some a) :: r => if a = 1000000 then none else if mw_oa a = true then some (pc + 1, ls, .inl (Int32.ofNat (mw_ol a)) :: r, m, c, sl) else (match kx_kF m.2.2.1 a with
      | some (k, n) => if 20 ≤ k ∧ k < 27 then some (pc + 1, ls, .inl (Int32.ofNat n) :: r, m, c, sl) else none
      | none => none)
    | _ => none
  | .baload => match st with
    | .inl i :: .inr (some a) :: r => if mw_oa a = true then (if ¬ (i < 0) ∧ i.toNatClampNeg < mw_ol a then some (pc + 1, ls, .inl (mw_ob a i.toNatClampNeg) :: r, m, c, sl) else none) else (match kx_kF m.2.2.1 a with
      | some (k, n) => if k = 24 ∧ ¬ (i < 0) ∧ i.toNatClampNeg < n then some (pc + 1, ls, .inl (kx_iF m.1 a i.toNatClampNeg) :: r, m, c, sl) else none
      | none => none)
    | _ => none
  | .bastore => match st with
    | .inl x :: .inl i :: .inr (some a) :: r => (match kx_kF m.2.2.1 a with
      | some (k, n) => if k = 24 ∧ ¬ (i < 0) ∧ i.toNatClampNeg < n then some (pc + 1, ls, r, ky_wI m a i.toNatClampNeg (vp_nar .byte x), c, sl) else none
      | none => none)
    | _ => none
  | .new _ => if q.2.2.1.2.2 = 0 ∧ 1 ≤ c ∧ q.2.2.1.2.1 ≤ sl then some (pc + 3, ls, .inr (some m.2.2.2) :: st, kx_new m (q.2.2.1.1, q.2.2.1.2.1), c - 1, sl - q.2.2.1.2.1) else none
  | .newarray t => match st with
    | .inl x :: r => if 1 ≤ c ∧ (¬ x < 0 ∧ x.toNatClampNeg ≤ 60000000 ∧ x.toNatClampNeg ≤ sl) then some (pc + 2, ls, .inr (some m.2.2.2) :: r, kx_new m (mw_akind t, x.toNatClampNeg), c - 1, sl - x.toNatClampNeg) else none
    | _ => none
  | .invokespecial _ => match st with
    | .inr (some _) :: r => if q.2.2.1.2.1 = 8 ∧ mw_cats (st.map ky_v) ≤ 9 then some (pc + 3, ls, r, m, c, sl) else none
    | _ => none
  | .invokestatic _ => match st with
    | .inl n :: .inl dp :: .inr (some b) :: .inl sp :: .inr (some a) :: r => if q.2.2.1.2.1 = 9 ∧ mw_cats (st.map ky_v) ≤ 13 then (match kx_kF m.2.2.1 a, kx_kF m.2.2.1 b with
      | some (k0, n0), some (k1, n1) => if (k0 = 24 ∧ k1 = 24) ∧ (¬ sp < 0 ∧ ¬ dp < 0 ∧ ¬ n < 0 ∧ sp.toNatClampNeg + n.toNatClampNeg ≤ n0 ∧ dp.toNatClampNeg + n.toNatClampNeg ≤ n1) ∧ ((List.range n.toNatClampNeg).all fun i => fits .byte (.int (kx_iF m.1 a (sp.toNatClampNeg + i)))) = true then some (pc + 3, ls, r, (ky_cpw b (fun i => kx_iF m.1 a (sp.toNatClampNeg + i)) dp.toNatClampNeg n.toNatClampNeg ++ m.1, m.2), c, sl) else none
      | none, some (k1, n1) => if (mw_oa a = true ∧ k1 = 24) ∧ (¬ sp < 0 ∧ ¬ dp < 0 ∧ ¬ n < 0 ∧ sp.toNatClampNeg + n.toNatClampNeg ≤ mw_ol a ∧ dp.toNatClampNeg + n.toNatClampNeg ≤ n1) ∧ ((List.range n.toNatClampNeg).all fun i => fits .byte (.int (mw_ob a (sp.toNatClampNeg + i)))) = true then some (pc + 3, ls, r, (ky_cpw b (fun i => mw_ob a (sp.toNatClampNeg + i)) dp.toNatClampNeg n.toNatClampNeg ++ m.1, m.2), c, sl) else none
      | _, _ => none) else none
    | _ => none
  | _ => none
/-! it is the machine -/
theorem ky_ld {ls : List (Option ky_V)} {i : Nat} {v : ky_V} (h : ls[i]? = some (some v)) : mw_ld (ky_l ls) i = some (ky_v v) := by
  unfold mw_ld
  rw [List.getElem?_map, h]
  rfl
theorem ky_set {ls : List (Option ky_V)} {i : Nat} {v : ky_V} : ky_l (ls.set i (some v)) = (ky_l ls).set i (some (ky_v v)) := by
  unfold ky_l
  rw [List.map_set]
  rfl
theorem ky_ok1 {ls : List (Option ky_V)} {i : Nat} (h : i < ls.length) : mw_ok1 (ky_l ls) i = true := by
  unfold mw_ok1
  rw [Bool.and_eq_true, decide_eq_true_eq]
  refine ⟨by rw [List.length_map]; exact h, ?_⟩
  cases i with
  | zero => rfl
  | succ j =>
    dsimp only
    rw [List.getElem?_map]
    cases ls[j]? with
    | none => rfl
    | some v =>
      cases v with
      | none => rfl
      | some w =>
        cases w with
        | inl x => rfl
        | inr x => cases x <;> rfl
theorem ky_wI_m {m : kx_M} {a k : Nat} {x : Int32} : kx_m (ky_wI m a k x) = mw_sI (kx_m m) a k x := rfl
theorem ky_wR_m {m : kx_M} {a k x : Nat} : kx_m (ky_wR m a k x) = mw_sR (kx_m m) a k (some x) := rfl
theorem ky_cp_m {m : kx_M} {a b sp dp n : Nat} : kx_m (ky_cpw b (fun i => kx_iF m.1 a (sp + i)) dp n ++ m.1, m.2) = mw_cp (kx_m m) a b sp dp n := by
  refine Prod.ext ?_ rfl
  funext x y
  show kx_iF (ky_cpw b (fun i => kx_iF m.1 a (sp + i)) dp n ++ m.1) x y = (if x = b then va_cpy (kx_iF m.1 a) (kx_iF m.1 b) sp dp n else kx_iF m.1 x) y
  rw [ky_cpw_ok]
  by_cases e : x = b
  · subst e
    rw [if_pos rfl]
    unfold va_cpy
    by_cases z : dp ≤ y ∧ y < dp + n
    · rw [if_pos ⟨rfl, z⟩, if_pos z]
    · rw [if_neg (fun q => z q.2), if_neg z]
  · rw [if_neg (fun q => e q.1), if_neg e]
theorem ky_cpo_m {m : kx_M} {a b sp dp n : Nat} : kx_m (ky_cpw b (fun i => mw_ob a (sp + i)) dp n ++ m.1, m.2) = mw_cpo (kx_m m) a b sp dp n := by
  refine Prod.ext ?_ rfl
  funext x y
  show kx_iF (ky_cpw b (fun i => mw_ob a (sp + i)) dp n ++ m.1) x y = (if x = b then va_cpy (mw_ob a) (kx_iF m.1 b) sp dp n else kx_iF m.1 x) y
  rw [ky_cpw_ok]
  by_cases e : x = b
  · subst e
    rw [if_pos rfl]
    unfold va_cpy
    by_cases z : dp ≤ y ∧ y < dp + n
    · rw [if_pos ⟨rfl, z⟩, if_pos z]
    · rw [if_neg (fun q => z q.2), if_neg z]
  · rw [if_neg (fun q => e q.1), if_neg e]
theorem ky_in {i : Int32} {n : Nat} (h : ¬ i < 0 ∧ i.toNatClampNeg < n) : vp_in i n := fun q => q.elim h.1 (fun z => by omega)
section
variable {sc : Nat × (Nat → Int32)} {rt : Option FieldType} {q : mw_I} {pc : Nat} {ls : List (Option ky_V)} {st : List ky_V} {m : kx_M} {c sl : Nat} {g : ky_F} {K : mw_Fr → Prop} {Qr : Option Value → mw_Mem → Prop}
theorem ky_st_ok (h : ky_st q pc ls st m c sl = some g) (k : K (ky_f g)) : mw_app (mw_ins sc rt q pc (ky_l ls) (st.map ky_v) (kx_m m) c sl) K Qr := by
  obtain ⟨i, len, ⟨r1, r2, r3⟩, ps, y, kk⟩ := q
  cases i with
  | iconst n =>
    obtain rfl := Option.some.inj (show some (pc + 1, ls, Sum.inl kk :: st, m, c, sl) = some g from h)
    exact k
  | bipush n =>
    obtain rfl := Option.some.inj (show some (pc + 2, ls, Sum.inl kk :: st, m, c, sl) = some g from h)
    exact k
  | sipush n =>
    obtain rfl := Option.some.inj (show some (pc + 3, ls, Sum.inl kk :: st, m, c, sl) = some g from h)
    exact k
  | goto n =>
    obtain rfl := Option.some.inj (show some (r1, ls, st, m, c, sl) = some g from h)
    exact k
  | aconst_null =>
    obtain rfl := Option.some.inj (show some (pc + 1, ls, Sum.inr none :: st, m, c, sl) = some g from h)
    exact k
  | ldc n =>
    unfold ky_st at h
    dsimp only at h
    split at h
    · cases h
    · rename_i h0
      obtain rfl := Option.some.inj h
      unfold mw_ins
      dsimp only
      rw [if_neg h0]
      exact k
  | getstatic n =>
    unfold ky_st at h
    dsimp only at h
    split at h
    · obtain rfl := Option.some.inj h
      exact k
    · obtain rfl := Option.some.inj h
      exact k
    · obtain rfl := Option.some.inj h
      exact k
    · cases h
  | iload_n n =>
    unfold ky_st at h
    dsimp only at h
    split at h
    · rename_i a ha
      obtain rfl := Option.some.inj h
      unfold mw_ins
      dsimp only
      rw [ky_ld ha]
      exact k
    · cases h
  | iload n =>
    unfold ky_st at h
    dsimp only at h
    split at h
    · rename_i a ha
      obtain rfl := Option.some.inj h
      unfold mw_ins
      dsimp only
      rw [ky_ld ha]
      exact k
    · cases h
  | aload_n n =>
    unfold ky_st at h
    dsimp only at h
    split at h
    · rename_i a ha
      obtain rfl := Option.some.inj h
      unfold mw_ins
      dsimp only
      rw [ky_ld ha]
      exact k
    · cases h
  | aload n =>
    unfold ky_st at h
    dsimp only at h
    split at h
    · rename_i a ha
      obtain rfl := Option.some.inj h
      unfold mw_ins
      dsimp only
      rw [ky_ld ha]
      exact k
    · cases h
  | istore_n n =>
    unfold ky_st at h
    dsimp only at h
    split at h
    · rename_i x r
      split at h
      · rename_i hl
        obtain rfl := Option.some.inj h
        have k' : K (pc + len, ky_l (ls.set r1 (some (.inl x))), r.map ky_v, kx_m m, c, sl) := k
        rw [ky_set] at k'
        unfold mw_ins
        dsimp only [List.map, ky_v]
        rw [if_pos (ky_ok1 hl)]
        exact k'
      · cases h
    · cases h
  | istore n =>
    unfold ky_st at h
    dsimp only at h
    split at h
    · rename_i x r
      split at h
      · rename_i hl
        obtain rfl := Option.some.inj h
        have k' : K (pc + len, ky_l (ls.set r1 (some (.inl x))), r.map ky_v, kx_m m, c, sl) := k
        rw [ky_set] at k'
        unfold mw_ins
        dsimp only [List.map, ky_v]
        rw [if_pos (ky_ok1 hl)]
        exact k'
      · cases h
    · cases h
  | astore_n n =>
    unfold ky_st at h
    dsimp only at h
    split at h
    · rename_i x r
      split at h
      · rename_i hl
        obtain rfl := Option.some.inj h
        have k' : K (pc + len, ky_l (ls.set r1 (some (.inr (some x)))), r.map ky_v, kx_m m, c, sl) := k
        rw [ky_set] at k'
        unfold mw_ins
        dsimp only [List.map, ky_v]
        rw [if_pos (ky_ok1 hl)]
        exact k'
      · cases h
    · cases h
  | astore n =>
    unfold ky_st at h
    dsimp only at h
    split at h
    · rename_i x r
      split at h
      · rename_i hl
        obtain rfl := Option.some.inj h
        have k' : K (pc + len, ky_l (ls.set r1 (some (.inr (some x)))), r.map ky_v, kx_m m, c, sl) := k
        rw [ky_set] at k'
        unfold mw_ins
        dsimp only [List.map, ky_v]
        rw [if_pos (ky_ok1 hl)]
        exact k'
      · cases h
    · cases h
  | iinc a b =>
    unfold ky_st at h
    dsimp only at h
    split at h
    · rename_i x hx
      split at h
      · rename_i hl
        obtain rfl := Option.some.inj h
        have k' : K (pc + 3, ky_l (ls.set r1 (some (.inl (x + kk)))), st.map ky_v, kx_m m, c, sl) := k
        rw [ky_set] at k'
        unfold mw_ins
        dsimp only
        rw [ky_ld hx]
        dsimp only [ky_v]
        rw [if_pos (ky_ok1 hl)]
        exact k'
      · cases h
    · cases h
  | iadd =>
    unfold ky_st at h
    dsimp only at h
    split at h
    · obtain rfl := Option.some.inj h
      exact k
    · cases h
  | isub =>
    unfold ky_st at h
    dsimp only at h
    split at h
    · obtain rfl := Option.some.inj h
      exact k
    · cases h
  | imul =>
    unfold ky_st at h
    dsimp only at h
    split at h
    · obtain rfl := Option.some.inj h
      exact k
    · cases h
  | ishl =>
    unfold ky_st at h
    dsimp only at h
    split at h
    · obtain rfl := Option.some.inj h
      exact k
    · cases h
  | ishr =>
    unfold ky_st at h
    dsimp only at h
    split at h
    · obtain rfl := Option.some.inj h
      exact k
    · cases h
  | ineg =>
    unfold ky_st at h
    dsimp only at h
    split at h
    · obtain rfl := Option.some.inj h
      exact k
    · cases h
  | ifnonnull n =>
    unfold ky_st at h
    dsimp only at h
    split at h
    · obtain rfl := Option.some.inj h
      exact k
    · cases h
  | idiv =>
    unfold ky_st at h
    dsimp only at h
    split at h
    · split at h
      · cases h
      · rename_i hz
        obtain rfl := Option.some.inj h
        exact ⟨hz, k⟩
    · cases h
  | dup =>
    unfold ky_st at h
    dsimp only at h
    split at h
    · obtain rfl := Option.some.inj h
      exact k
    · obtain rfl := Option.some.inj h
      exact k
    · cases h
  | pop =>
    unfold ky_st at h
    dsimp only at h
    split at h
    · obtain rfl := Option.some.inj h
      exact k
    · obtain rfl := Option.some.inj h
      exact k
    · cases h
  | if_icmp cd n =>
    unfold ky_st at h
    dsimp only at h
    split at h
    · rename_i y x r
      obtain rfl := Option.some.inj h
      refine ⟨fun p => ?_, fun p => ?_⟩
      · have k' : K (if ky_cmp cd x y = true then r1 else pc + 3, ky_l ls, r.map ky_v, kx_m m, c, sl) := k
        rw [if_pos (ky_cmp_ok.mpr p)] at k'
        exact k'
      · have k' : K (if ky_cmp cd x y = true then r1 else pc + 3, ky_l ls, r.map ky_v, kx_m m, c, sl) := k
        rw [if_neg (fun z => p (ky_cmp_ok.mp z))] at k'
        exact k'
    · cases h
  | ifCond cd n =>
    unfold ky_st at h
    dsimp only at h
    split at h
    · rename_i x r
      obtain rfl := Option.some.inj h
      refine ⟨fun p => ?_, fun p => ?_⟩
      · have k' : K (if ky_cmp cd x 0 = true then r1 else pc + 3, ky_l ls, r.map ky_v, kx_m m, c, sl) := k
        rw [if_pos (ky_cmp_ok.mpr p)] at k'
        exact k'
      · have k' : K (if ky_cmp cd x 0 = true then r1 else pc + 3, ky_l ls, r.map ky_v, kx_m m, c, sl) := k
        rw [if_neg (fun z => p (ky_cmp_ok.mp z))] at k'
        exact k'
    · cases h
  | getfield n =>
    unfold ky_st at h
    dsimp only at h
    split at h
    · rename_i a r
      split at h
      · rename_i ha
        split at h
        · rename_i hz
          subst hz
          split at h
          · obtain rfl := Option.some.inj h
            unfold mw_ins
            dsimp only [List.map, ky_v]
            rw [if_pos ha]
            exact k
          · obtain rfl := Option.some.inj h
            unfold mw_ins
            dsimp only [List.map, ky_v]
            rw [if_pos ha]
            exact k
          · cases h
        · cases h
      · rename_i ha
        split at h
        · rename_i k1 n1 hk
          split at h
          · rename_i hz
            subst hz
            split at h
            · rename_i hz
              subst hz
              split at h
              · rename_i b hb
                obtain rfl := Option.some.inj h
                unfold mw_ins
                dsimp only [List.map, ky_v]
                rw [if_neg ha, show (kx_m m).2.2.2.2.1 a = some (k1, n1) from hk]
                dsimp only
                rw [if_pos rfl]
                show K (pc + 3, ky_l ls, mw_rv (kx_rF m.2.1 a r2) :: r.map ky_v, kx_m m, c, sl)
                rw [hb]
                exact k
              · cases h
            · rename_i hz2
              split at h
              · rename_i hz
                obtain rfl := Option.some.inj h
                unfold mw_ins
                dsimp only [List.map, ky_v]
                rw [if_neg ha, show (kx_m m).2.2.2.2.1 a = some (k1, n1) from hk]
                dsimp only
                rw [if_pos rfl]
                rcases hz with rfl | rfl
                · exact k
                · exact k
              · cases h
          · cases h
        · cases h
    · cases h
  | putfield n =>
    unfold ky_st at h
    dsimp only at h
    split at h
    · rename_i x a r
      split at h
      · rename_i k1 n1 hk
        split at h
        · rename_i hc
          obtain rfl := Option.some.inj h
          obtain ⟨rfl, hc⟩ := hc
          unfold mw_ins
          dsimp only [List.map, ky_v]
          rw [show (kx_m m).2.2.2.2.1 a = some (k1, n1) from hk]
          dsimp only
          rw [if_pos rfl]
          rcases hc with rfl | ⟨rfl, hx⟩
          · exact k
          · exact ⟨hx, k⟩
        · cases h
      · cases h
    · rename_i x a r
      split at h
      · rename_i k1 n1 hk
        split at h
        · rename_i hc
          obtain rfl := Option.some.inj h
          obtain ⟨rfl, rfl⟩ := hc
          unfold mw_ins
          dsimp only [List.map, ky_v]
          rw [show (kx_m m).2.2.2.2.1 a = some (k1, n1) from hk]
          dsimp only
          rw [if_pos ⟨rfl, rfl⟩]
          exact k
        · cases h
      · cases h
    · cases h
  | arraylength =>
    unfold ky_st at h
    dsimp only at h
    split at h
    · rename_i a r
      split at h
      · cases h
      · rename_i h0
        split at h
        · rename_i h1
          obtain rfl := Option.some.inj h
          unfold mw_ins
          dsimp only [List.map, ky_v]
          rw [if_neg h0, if_pos h1]
          exact k
        · rename_i h1
          split at h
          · rename_i k1 n1 hk
            split at h
            · rename_i h2
              obtain rfl := Option.some.inj h
              unfold mw_ins
              dsimp only [List.map, ky_v]
              rw [if_neg h0, if_neg h1, show (kx_m m).2.2.2.2.1 a = some (k1, n1) from hk]
              dsimp only
              rw [if_pos h2]
              exact k
            · cases h
          · cases h
    · cases h
  | baload =>
    unfold ky_st at h
    dsimp only at h
    split at h
    · rename_i i a r
      split at h
      · rename_i h0
        split at h
        · rename_i h1
          obtain rfl := Option.some.inj h
          unfold mw_ins
          dsimp only [List.map, ky_v]
          rw [if_pos h0]
          exact ⟨ky_in h1, k⟩
        · cases h
      · rename_i h0
        split at h
        · rename_i k1 n1 hk
          split at h
          · rename_i h1
            obtain ⟨rfl, h1⟩ := h1
            obtain rfl := Option.some.inj h
            unfold mw_ins
            dsimp only [List.map, ky_v]
            rw [if_neg h0, show (kx_m m).2.2.2.2.1 a = some (24, n1) from hk]
            dsimp only
            rw [if_pos rfl]
            exact ⟨ky_in h1, k⟩
          · cases h
        · cases h
    · cases h
  | bastore =>
    unfold ky_st at h
    dsimp only at h
    split at h
    · rename_i x i a r
      split at h
      · rename_i k1 n1 hk
        split at h
        · rename_i h1
          obtain ⟨rfl, h1⟩ := h1
          obtain rfl := Option.some.inj h
          unfold mw_ins
          dsimp only [List.map, ky_v]
          rw [show (kx_m m).2.2.2.2.1 a = some (24, n1) from hk]
          dsimp only
          rw [if_pos rfl]
          exact ⟨ky_in h1, k⟩
        · cases h
      · cases h
    · cases h
  | new n =>
    unfold ky_st at h
    dsimp only at h
    split at h
    · rename_i hc
      obtain rfl := Option.some.inj h
      have k' : K (pc + 3, ky_l ls, Value.ref m.2.2.2 :: st.map ky_v, kx_m (kx_new m (r1, r2)), c - 1, sl - r2) := k
      rw [← kx_new_m] at k'
      unfold mw_ins
      dsimp only
      rw [if_pos hc]
      exact k'
    · cases h
  | newarray t =>
    unfold ky_st at h
    dsimp only at h
    split at h
    · rename_i x r
      split at h
      · rename_i hc
        obtain rfl := Option.some.inj h
        have k' : K (pc + 2, ky_l ls, Value.ref m.2.2.2 :: r.map ky_v, kx_m (kx_new m (mw_akind t, x.toNatClampNeg)), c - 1, sl - x.toNatClampNeg) := k
        rw [← kx_new_m] at k'
        unfold mw_ins
        dsimp only [List.map, ky_v]
        rw [if_pos hc.1]
        exact ⟨hc.2, k'⟩
      · cases h
    · cases h
  | invokespecial n =>
    unfold ky_st at h
    dsimp only at h
    split at h
    · rename_i a r
      split at h
      · rename_i hc
        obtain rfl := Option.some.inj h
        unfold mw_ins
        dsimp only
        rw [if_pos hc]
        exact k
      · cases h
    · cases h
  | invokestatic n =>
    unfold ky_st at h
    dsimp only at h
    split at h
    · rename_i n9 dp b sp a r
      split at h
      · rename_i hc
        split at h
        · rename_i k0 n0 k1 n1 hk0 hk1
          split at h
          · rename_i hd
            obtain ⟨⟨rfl, rfl⟩, hd, hall⟩ := hd
            obtain rfl := Option.some.inj h
            have k' : K (pc + 3, ky_l ls, r.map ky_v, kx_m (ky_cpw b (fun i => kx_iF m.1 a (sp.toNatClampNeg + i)) dp.toNatClampNeg n9.toNatClampNeg ++ m.1, m.2), c, sl) := k
            rw [ky_cp_m] at k'
            unfold mw_ins
            dsimp only
            rw [if_pos hc]
            dsimp only [List.map, ky_v]
            rw [show (kx_m m).2.2.2.2.1 a = some (24, n0) from hk0, show (kx_m m).2.2.2.2.1 b = some (24, n1) from hk1]
            dsimp only
            rw [if_pos (Or.inr ⟨rfl, rfl⟩)]
            exact ⟨⟨hd.1, hd.2.1, hd.2.2.1, hd.2.2.2.1, hd.2.2.2.2, fun _ i hi => List.all_eq_true.mp hall i (List.mem_range.mpr hi)⟩, k'⟩
          · cases h
        · rename_i k1 n1 hk0 hk1
          split at h
          · rename_i hd
            obtain ⟨⟨ho, rfl⟩, hd, hall⟩ := hd
            obtain rfl := Option.some.inj h
            have k' : K (pc + 3, ky_l ls, r.map ky_v, kx_m (ky_cpw b (fun i => mw_ob a (sp.toNatClampNeg + i)) dp.toNatClampNeg n9.toNatClampNeg ++ m.1, m.2), c, sl) := k
            rw [ky_cpo_m] at k'
            unfold mw_ins
            dsimp only
            rw [if_pos hc]
            dsimp only [List.map, ky_v]
            rw [show (kx_m m).2.2.2.2.1 a = none from hk0, show (kx_m m).2.2.2.2.1 b = some (24, n1) from hk1]
            dsimp only
            rw [if_pos ⟨ho, rfl⟩]
            exact ⟨⟨hd.1, hd.2.1, hd.2.2.1, hd.2.2.2.1, hd.2.2.2.2, fun i hi => List.all_eq_true.mp hall i (List.mem_range.mpr hi)⟩, k'⟩
          · cases h
        · cases h
      · cases h
    · cases h
  | _ => cases h
end
/-- what a method answers -/
def ky_ret (q : mw_I) (rt : Option FieldType) (st : List ky_V) : Option (Option ky_V) := match q.1 with
  | .return_ => if st.isEmpty && rt.isNone then some none else none
  | .ireturn => match st with
    | [.inl x] => if rt = some .int then some (some (.inl x)) else if (rt = some .boolean ∨ rt = some .byte) ∧ (x = 0 ∨ x = 1) then some (some (.inl x)) else none
    | _ => none
  | .areturn => match st with
    | [.inr (some a)] => if mw_isref rt = true then some (some (.inr (some a))) else none
    | _ => none
  | _ => none
theorem ky_ret_ok {sc : Nat × (Nat → Int32)} {Good : mw_CD → Prop} {cd : mw_CD} {D : Nat} {f : ky_F} {q : mw_I} {v : Option ky_V} {Qr : Option Value → mw_Mem → Prop} {Qx : Nat → mw_Mem → Prop} (hq : mw_lk cd f.1 = some q) (h : ky_ret q cd.2.2.2.1 f.2.2.1 = some v) (k : Qr (v.map ky_v) (kx_m f.2.2.2.1)) : mw_Wp sc Good cd D (ky_f f) Qr Qx := by
  refine mw_Wp.in (Or.inl ?_)
  unfold mw_stp
  rw [show (ky_f f).1 = f.1 from rfl, hq]
  obtain ⟨i, len, ⟨r1, r2, r3⟩, ps, y, kk⟩ := q
  obtain ⟨pc, ls, st, m, c, sl⟩ := f
  dsimp only at h k hq ⊢
  unfold ky_ret at h
  split at h
  · rename_i e
    dsimp only at e
    subst e
    split at h
    · rename_i hc
      rw [Bool.and_eq_true] at hc
      obtain rfl := Option.some.inj h
      rw [List.isEmpty_iff.mp hc.1]
      show mw_app (if cd.2.2.2.1 = none then mw_rt none (kx_m m) else none) _ _
      rw [if_pos (Option.isNone_iff_eq_none.mp hc.2)]
      exact k
    · cases h
  · rename_i e
    dsimp only at e
    subst e
    split at h
    · rename_i x
      split at h
      · rename_i hr
        obtain rfl := Option.some.inj h
        show mw_app (if cd.2.2.2.1 = some .int then mw_rt (some (.int x)) (kx_m m) else mw_rp _ _ _) _ _
        rw [if_pos hr]
        exact k
      · rename_i hr
        split at h
        · rename_i hc
          obtain rfl := Option.some.inj h
          show mw_app (if cd.2.2.2.1 = some .int then mw_rt (some (.int x)) (kx_m m) else mw_rp (∃ ty : FieldType, cd.2.2.2.1 = some ty ∧ narrow ty (.int x) = .int x) (some (.int x)) (kx_m m)) _ _
          rw [if_neg hr]
          refine ⟨?_, k⟩
          obtain ⟨hc1 | hc1, hc2⟩ := hc
          · refine ⟨_, hc1, ?_⟩
            rcases hc2 with rfl | rfl <;> decide
          · refine ⟨_, hc1, ?_⟩
            rcases hc2 with rfl | rfl <;> decide
        · cases h
    · cases h
  · rename_i e
    dsimp only at e
    subst e
    split at h
    · rename_i a
      split at h
      · rename_i hr
        obtain rfl := Option.some.inj h
        show mw_app (if mw_isref cd.2.2.2.1 = true then mw_rt (some (.ref a)) (kx_m m) else none) _ _
        rw [if_pos hr]
        exact k
      · cases h
    · cases h
  · cases h
def ky_isret (i : Instr) : Bool := match i with
  | .return_ => true
  | .ireturn => true
  | .areturn => true
  | _ => false
/-- an instruction that calls -/
def ky_iscall (q : mw_I) : Bool := match q.1 with
  | .invokevirtual _ => true
  | .invokespecial _ => decide (q.2.2.1.2.1 = 2 ∨ q.2.2.1.2.1 = 6)
  | .invokestatic _ => decide (q.2.2.1.2.1 = 1)
  | _ => false
def ky_rcv (q : mw_I) (st : List ky_V) (m : kx_M) : Bool := match q.1 with
  | .invokevirtual _ => (match st[q.2.2.1.1 - 1]? with
    | some (.inr (some a)) => (match kx_kF m.2.2.1 a with
      | some (k, _) => decide (k = q.2.2.1.2.2)
      | none => decide (q.2.2.1.2.2 = 0 ∧ 1000001 ≤ a ∧ a < 1000031))
    | _ => false)
  | .invokespecial _ => (match st[q.2.2.1.1 - 1]? with
    | some (.inr (some a)) => if q.2.2.1.2.1 = 6 then (match kx_kF m.2.2.1 a with
      | some (k, _) => decide (k = q.2.2.1.2.2)
      | none => false) else true
    | _ => false)
  | _ => true
def ky_find (y : MethodName) : List (mw_CD × Nat × Nat) → Option (mw_CD × Nat × Nat)
  | [] => none
  | z :: r => if z.1.1 = y then some z else ky_find y r
theorem ky_find_mem {y : MethodName} : ∀ {tb : List (mw_CD × Nat × Nat)} {e : mw_CD × Nat × Nat}, ky_find y tb = some e → e ∈ tb ∧ e.1.1 = y
  | [], e, h => by cases h
  | z :: r, e, h => by
    unfold ky_find at h
    split at h
    · rename_i hz
      obtain rfl := Option.some.inj h
      exact ⟨List.mem_cons_self, hz⟩
    · have := ky_find_mem h
      exact ⟨List.mem_cons_of_mem _ this.1, this.2⟩
def ky_run (tb : List (mw_CD × Nat × Nat)) : Nat → mw_CD → ky_F → Option (Option ky_V × kx_M)
  | 0, _, _ => none
  | n + 1, cd, f => match mw_lk cd f.1 with
    | none => none
    | some q => match ky_isret q.1 with
      | true => (match ky_ret q cd.2.2.2.1 f.2.2.1 with
        | some v => some (v, f.2.2.2.1)
        | none => none)
      | false => match ky_iscall q with
        | false => (match ky_st q f.1 f.2.1 f.2.2.1 f.2.2.2.1 f.2.2.2.2.1 f.2.2.2.2.2 with
          | some g => ky_run tb n cd g
          | none => none)
        | true => (match ky_find q.2.2.2.2.1 tb with
          | none => none
          | some e => if (e.2.1 ≤ f.2.2.2.2.1 ∧ e.2.2 ≤ f.2.2.2.2.2) ∧ ky_rcv q f.2.2.1 f.2.2.2.1 = true ∧ mw_ck q e.1 (f.2.2.1.map ky_v) = true then
              (match ky_run tb n e.1 (0, (f.2.2.1.take q.2.2.1.1).reverse.map some ++ List.replicate (e.1.2.2.1 - q.2.2.1.1) none, [], f.2.2.2.1, e.2.1, e.2.2) with
              | none => none
              | some r => ky_run tb n cd (f.1 + 3, f.2.1, r.1.toList ++ f.2.2.1.drop q.2.2.1.1, r.2, f.2.2.2.2.1 - e.2.1, f.2.2.2.2.2 - e.2.2))
            else none)
section
variable {sc : Nat × (Nat → Int32)} {tb : List (mw_CD × Nat × Nat)}
theorem ky_rcv_ok {q : mw_I} {st : List ky_V} {m : kx_M} (hc : ky_iscall q = true) (h : ky_rcv q st m = true) : mw_recv q (st.map ky_v) (kx_m m) := by
  unfold ky_iscall at hc
  unfold ky_rcv at h
  unfold mw_recv
  split at hc
  · rename_i n hn
    rw [hn] at h ⊢
    dsimp only at h ⊢
    split at h
    · rename_i a ha
      split at h
      · rename_i k9 n9 hk
        have := of_decide_eq_true h
        subst this
        exact Or.inl ⟨a, n9, by rw [List.getElem?_map, ha]; rfl, hk⟩
      · have := of_decide_eq_true h
        exact Or.inr (Or.inl ⟨this.1, a, by rw [List.getElem?_map, ha]; rfl, this.2⟩)
    · cases h
  · rename_i n hn
    rw [hn] at h ⊢
    dsimp only at h ⊢
    split at h
    · rename_i a ha
      refine ⟨a, by rw [List.getElem?_map, ha]; rfl, fun z => ?_⟩
      rw [if_pos z] at h
      split at h
      · rename_i k9 n9 hk
        have := of_decide_eq_true h
        subst this
        exact ⟨n9, hk⟩
      · cases h
    · cases h
  · rename_i n hn
    rw [hn]
    exact True.intro
  · cases hc
theorem ky_run_ok (hT : ∀ e ∈ tb, mw_Good e.1) : ∀ (n : Nat) (cd : mw_CD) (f : ky_F) (v : Option ky_V) (m : kx_M) (D : Nat) (Qr : Option Value → mw_Mem → Prop) (Qx : Nat → mw_Mem → Prop), n ≤ D → ky_run tb n cd f = some (v, m) → Qr (v.map ky_v) (kx_m m) → mw_Wp sc mw_Good cd D (ky_f f) Qr Qx := by
  intro n
  induction n with
  | zero =>
    intro cd f v m D Qr Qx hD h k
    cases h
  | succ n ih =>
    intro cd f v m D Qr Qx hD h k
    unfold ky_run at h
    split at h
    · cases h
    · rename_i q hq
      split at h
      · split at h
        · rename_i v9 hv
          obtain ⟨rfl, rfl⟩ := Prod.mk.inj (Option.some.inj h)
          exact ky_ret_ok hq hv k
        · cases h
      · split at h
        · split at h
          · rename_i g hg
            refine mw_Wp.in (Or.inl ?_)
            unfold mw_stp
            rw [show (ky_f f).1 = f.1 from rfl, hq]
            exact ky_st_ok hg (ih cd g v m D Qr Qx (by omega) h k)
          · cases h
        · rename_i hcall
          split at h
          · cases h
          · rename_i e he
            split at h
            · rename_i hc
              split at h
              · cases h
              · rename_i r hr
                obtain ⟨⟨c1, c2⟩, c3, c4⟩ := hc
                obtain ⟨hz, hze⟩ := ky_find_mem he
                have hlen : (f.2.2.1.take q.2.2.1.1).length = q.2.2.1.1 := by
                  have h9 := c4
                  unfold mw_ck at h9
                  simp only [Bool.and_eq_true, decide_eq_true_eq, List.length_map] at h9
                  rw [List.length_take]
                  omega
                have hent : mw_entry e.1.2.2.1 ((f.2.2.1.map ky_v).take q.2.2.1.1).reverse = ky_l ((f.2.2.1.take q.2.2.1.1).reverse.map some ++ List.replicate (e.1.2.2.1 - q.2.2.1.1) none) := by
                  unfold mw_entry ky_l
                  rw [List.map_append, List.map_replicate, ← List.map_take, ← List.map_reverse, List.map_map, List.map_map, List.length_map, List.length_reverse, hlen]
                  rfl
                refine mw_Wp.cal (pc := f.1) q e.1 n e.2.1 e.2.2 hq c4 hze.symm (hT e hz) (by omega) c1 c2 (ky_rcv_ok hcall c3) ?_
                rw [hent]
                refine ih e.1 (0, _, [], f.2.2.2.1, e.2.1, e.2.2) r.1 r.2 n _ _ (Nat.le_refl _) hr ?_
                have k9 := ih cd _ v m D Qr Qx (by omega) h k
                have e9 : (r.1.map ky_v).toList ++ (f.2.2.1.map ky_v).drop q.2.2.1.1 = (r.1.toList ++ f.2.2.1.drop q.2.2.1.1).map ky_v := by
                  rw [List.map_append, List.map_drop]
                  cases r.1 <;> rfl
                rw [e9]
                exact k9
            · cases h
end
