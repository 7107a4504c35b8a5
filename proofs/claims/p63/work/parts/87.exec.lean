/-! constructors: a machine that can be run; values are ints or places, memory is what was written -/
abbrev kx_V : Type := Int32 ⊕ Nat
abbrev kx_M : Type := List (Nat × Option (Nat × Int32)) × List (Nat × Option (Nat × Option Nat)) × List (Nat × Nat × Nat) × Nat
abbrev kx_F : Type := Nat × List (Option kx_V) × List kx_V × kx_M × Nat × Nat
def kx_v (v : kx_V) : Value := match v with
  | .inl x => .int x
  | .inr a => .ref a
def kx_iF : List (Nat × Option (Nat × Int32)) → Nat → Nat → Int32
  | [] => fun _ _ => 0
  | (a, none) :: r => mw_z (kx_iF r) a 0
  | (a, some p) :: r => mw_u (kx_iF r) a p.1 p.2
def kx_rF : List (Nat × Option (Nat × Option Nat)) → Nat → Nat → Option Nat
  | [] => fun _ _ => none
  | (a, none) :: r => mw_z (kx_rF r) a none
  | (a, some p) :: r => mw_u (kx_rF r) a p.1 p.2
def kx_kF : List (Nat × Nat × Nat) → Nat → Option (Nat × Nat)
  | [] => fun _ => none
  | q :: r => mw_k (kx_kF r) q.1 (some q.2)
def kx_m (m : kx_M) : mw_Mem := (kx_iF m.1, fun _ _ => 0, fun _ _ => 0, kx_rF m.2.1, kx_kF m.2.2.1, m.2.2.2)
abbrev kx_l (ls : List (Option kx_V)) : List (Option Value) := ls.map (fun v => v.map kx_v)
def kx_f (f : kx_F) : mw_Fr := (f.1, kx_l f.2.1, f.2.2.1.map kx_v, kx_m f.2.2.2.1, f.2.2.2.2.1, f.2.2.2.2.2)
def kx_new (m : kx_M) (k : Nat × Nat) : kx_M := ((m.2.2.2, none) :: m.1, (m.2.2.2, none) :: m.2.1, (m.2.2.2, k) :: m.2.2.1, m.2.2.2 + 1)
def kx_six (m : kx_M) : kx_M := ((m.2.2.2 + 6, none) :: (m.2.2.2 + 5, none) :: (m.2.2.2 + 4, none) :: (m.2.2.2 + 3, none) :: (m.2.2.2 + 2, none) :: (m.2.2.2 + 1, none) :: (m.2.2.2, none) :: m.1,
  (m.2.2.2, some (5, some (m.2.2.2 + 6))) :: (m.2.2.2, some (4, some (m.2.2.2 + 5))) :: (m.2.2.2, some (3, some (m.2.2.2 + 4))) :: (m.2.2.2, some (2, some (m.2.2.2 + 3))) :: (m.2.2.2, some (1, some (m.2.2.2 + 2))) :: (m.2.2.2, some (0, some (m.2.2.2 + 1))) :: (m.2.2.2 + 6, none) :: (m.2.2.2 + 5, none) :: (m.2.2.2 + 4, none) :: (m.2.2.2 + 3, none) :: (m.2.2.2 + 2, none) :: (m.2.2.2 + 1, none) :: (m.2.2.2, none) :: m.2.1,
  (m.2.2.2 + 6, 20, 6) :: (m.2.2.2 + 5, 20, 6) :: (m.2.2.2 + 4, 20, 6) :: (m.2.2.2 + 3, 20, 6) :: (m.2.2.2 + 2, 20, 6) :: (m.2.2.2 + 1, 20, 6) :: (m.2.2.2, 26, 6) :: m.2.2.1, m.2.2.2 + 7)
/-- one step -/
def kx_st (q : mw_I) (pc : Nat) (ls : List (Option kx_V)) (st : List kx_V) (m : kx_M) (c sl : Nat) : Option kx_F :=
  match q.1 with
  | .iconst _ => some (pc + 1, ls, .inl q.2.2.2.2.2 :: st, m, c, sl)
  | .bipush _ => some (pc + 2, ls, .inl q.2.2.2.2.2 :: st, m, c, sl)
  | .sipush _ => some (pc + 3, ls, .inl q.2.2.2.2.2 :: st, m, c, sl)
  | .getstatic _ => if q.2.2.1.1 = 0 then some (pc + 3, ls, .inl 1 :: st, m, c, sl) else none
  | .aload_n _ => match ls[q.2.2.1.1]? with
    | some (some (.inr a)) => some (pc + q.2.1, ls, .inr a :: st, m, c, sl)
    | _ => none
  | .iload_n _ => match ls[q.2.2.1.1]? with
    | some (some (.inl a)) => some (pc + q.2.1, ls, .inl a :: st, m, c, sl)
    | _ => none
  | .istore_n _ => match st with
    | .inl x :: r => if q.2.2.1.1 < ls.length then some (pc + q.2.1, ls.set q.2.2.1.1 (some (.inl x)), r, m, c, sl) else none
    | _ => none
  | .istore _ => match st with
    | .inl x :: r => if q.2.2.1.1 < ls.length then some (pc + q.2.1, ls.set q.2.2.1.1 (some (.inl x)), r, m, c, sl) else none
    | _ => none
  | .astore_n _ => match st with
    | .inr x :: r => if q.2.2.1.1 < ls.length then some (pc + q.2.1, ls.set q.2.2.1.1 (some (.inr x)), r, m, c, sl) else none
    | _ => none
  | .astore _ => match st with
    | .inr x :: r => if q.2.2.1.1 < ls.length then some (pc + q.2.1, ls.set q.2.2.1.1 (some (.inr x)), r, m, c, sl) else none
    | _ => none
  | .iinc _ _ => match ls[q.2.2.1.1]? with
    | some (some (.inl x)) => if q.2.2.1.1 < ls.length then some (pc + 3, ls.set q.2.2.1.1 (some (.inl (x + q.2.2.2.2.2))), st, m, c, sl) else none
    | _ => none
  | .dup => match st with
    | v :: r => some (pc + 1, ls, v :: v :: r, m, c, sl)
    | _ => none
  | .if_icmp .ge _ => match st with
    | .inl y :: .inl x :: r => some (if y ≤ x then q.2.2.1.1 else pc + 3, ls, r, m, c, sl)
    | _ => none
  | .ifCond .eq _ => match st with
    | .inl x :: r => some (if x = 0 then q.2.2.1.1 else pc + 3, ls, r, m, c, sl)
    | _ => none
  | .goto _ => some (q.2.2.1.1, ls, st, m, c, sl)
  | .getfield _ => match st with
    | .inr a :: r => if a < 1000001 then (match kx_kF m.2.2.1 a with
      | some (k, _) => if k = q.2.2.1.1 ∧ q.2.2.1.2.2 = 2 then (match kx_rF m.2.1 a q.2.2.1.2.1 with
        | some b => some (pc + 3, ls, .inr b :: r, m, c, sl)
        | none => none) else none
      | none => none) else none
    | _ => none
  | .putfield _ => match st with
    | .inl x :: .inr a :: r => match kx_kF m.2.2.1 a with
      | some (k, _) => if k = q.2.2.1.1 ∧ (q.2.2.1.2.2 = 0 ∨ (q.2.2.1.2.2 = 3 ∧ (x = 0 ∨ x = 1))) then some (pc + 3, ls, r, ((a, some (q.2.2.1.2.1, x)) :: m.1, m.2), c, sl) else none
      | none => none
    | .inr x :: .inr a :: r => match kx_kF m.2.2.1 a with
      | some (k, _) => if k = q.2.2.1.1 ∧ q.2.2.1.2.2 = 2 then some (pc + 3, ls, r, (m.1, (a, some (q.2.2.1.2.1, some x)) :: m.2.1, m.2.2), c, sl) else none
      | none => none
    | _ => none
  | .aastore => match st with
    | .inr x :: .inl i :: .inr a :: r => match kx_kF m.2.2.1 a, kx_kF m.2.2.1 x with
      | some (k, n), some (k', _) => if (k = 25 ∧ k' = 12) ∧ ¬ (i < 0 ∨ n ≤ i.toNatClampNeg) then some (pc + 1, ls, r, (m.1, (a, some (i.toNatClampNeg, some x)) :: m.2.1, m.2.2), c, sl) else none
      | _, _ => none
    | _ => none
  | .new _ => if q.2.2.1.2.2 = 0 ∧ 1 ≤ c ∧ q.2.2.1.2.1 ≤ sl then some (pc + 3, ls, .inr m.2.2.2 :: st, kx_new m (q.2.2.1.1, q.2.2.1.2.1), c - 1, sl - q.2.2.1.2.1) else none
  | .newarray t => match st with
    | .inl x :: r => if 1 ≤ c ∧ (¬ x < 0 ∧ x.toNatClampNeg ≤ 60000000 ∧ x.toNatClampNeg ≤ sl) then some (pc + 2, ls, .inr m.2.2.2 :: r, kx_new m (mw_akind t, x.toNatClampNeg), c - 1, sl - x.toNatClampNeg) else none
    | _ => none
  | .anewarray _ => match st with
    | .inl x :: r => if 1 ≤ c ∧ (¬ x < 0 ∧ x.toNatClampNeg ≤ 60000000 ∧ x.toNatClampNeg ≤ sl) ∧ ¬ q.2.2.1.1 = 1 then some (pc + 3, ls, .inr m.2.2.2 :: r, kx_new m (25, x.toNatClampNeg), c - 1, sl - x.toNatClampNeg) else none
    | _ => none
  | .multianewarray _ _ => match st with
    | .inl y :: .inl x :: r => if x = 6 ∧ y = 6 ∧ 7 ≤ c ∧ 42 ≤ sl then some (pc + 4, ls, .inr m.2.2.2 :: r, kx_six m, c - 7, sl - 42) else none
    | _ => none
  | .invokespecial _ => match st with
    | .inr x :: r => if q.2.2.1.2.1 = 8 ∧ mw_cats ((Sum.inr x :: r).map kx_v) ≤ 9 then some (pc + 3, ls, r, m, c, sl) else none
    | _ => none
  | _ => none
theorem kx_ld {ls : List (Option kx_V)} {i : Nat} {v : kx_V} (h : ls[i]? = some (some v)) : mw_ld (kx_l ls) i = some (kx_v v) := by
  unfold mw_ld
  rw [List.getElem?_map, h]
  rfl
theorem kx_ok1 {ls : List (Option kx_V)} {i : Nat} (h : i < ls.length) : mw_ok1 (kx_l ls) i = true := by
  unfold mw_ok1
  rw [Bool.and_eq_true, decide_eq_true_eq, List.length_map]
  refine ⟨h, ?_⟩
  cases i with
  | zero => rfl
  | succ j =>
    dsimp only
    rw [List.getElem?_map]
    cases ls[j]? with
    | none => rfl
    | some v =>
      cases v with
      | none => rfl
      | some w => cases w <;> rfl
theorem kx_set {ls : List (Option kx_V)} {i : Nat} {v : kx_V} : kx_l (ls.set i (some v)) = (kx_l ls).set i (some (kx_v v)) := by
  unfold kx_l
  rw [List.map_set]
  rfl
theorem kx_z0 {α : Type} {n : Nat} {v : α} : mw_z (fun (_ _ : Nat) => v) n v = fun _ _ => v := by
  funext x y
  unfold mw_z
  split <;> rfl
theorem kx_new_m {m : kx_M} {k : Nat × Nat} : mw_ncell (kx_m m) k = kx_m (kx_new m k) := by
  have e1 : mw_z (fun (_ _ : Nat) => (0 : Int64)) m.2.2.2 0 = fun _ _ => 0 := kx_z0
  have e2 : mw_z (fun (_ _ : Nat) => (0 : UInt64)) m.2.2.2 0 = fun _ _ => 0 := kx_z0
  have h : mw_ncell (kx_m m) k = ((mw_z (kx_iF m.1) m.2.2.2 0, mw_z (fun (_ _ : Nat) => (0 : Int64)) m.2.2.2 0, mw_z (fun (_ _ : Nat) => (0 : UInt64)) m.2.2.2 0, mw_z (kx_rF m.2.1) m.2.2.2 none, mw_k (kx_kF m.2.2.1) m.2.2.2 (some k), m.2.2.2 + 1) : mw_Mem) := rfl
  rw [h, e1, e2]
  rfl
theorem kx_zr {α : Type} {f : Nat → Nat → α} {v : α} {n : Nat} : mw_zr f n (n + 1 + 6) v = mw_z (mw_z (mw_z (mw_z (mw_z (mw_z (mw_z f n v) (n + 1) v) (n + 2) v) (n + 3) v) (n + 4) v) (n + 5) v) (n + 6) v := by
  funext x y
  unfold mw_zr mw_z
  by_cases h : n ≤ x ∧ x < n + 1 + 6
  · rw [if_pos h]
    by_cases h6 : x = n + 6
    · rw [if_pos h6]
    rw [if_neg h6]
    by_cases h5 : x = n + 5
    · rw [if_pos h5]
    rw [if_neg h5]
    by_cases h4 : x = n + 4
    · rw [if_pos h4]
    rw [if_neg h4]
    by_cases h3 : x = n + 3
    · rw [if_pos h3]
    rw [if_neg h3]
    by_cases h2 : x = n + 2
    · rw [if_pos h2]
    rw [if_neg h2]
    by_cases h1 : x = n + 1
    · rw [if_pos h1]
    rw [if_neg h1, if_pos (by omega)]
  · rw [if_neg h, if_neg (by omega), if_neg (by omega), if_neg (by omega), if_neg (by omega), if_neg (by omega), if_neg (by omega), if_neg (by omega)]
theorem kx_six_m {m : kx_M} : mw_mult (kx_m m) 6 6 = kx_m (kx_six m) := by
  obtain ⟨il, rl, kl, n⟩ := m
  have hR : (fun x y => if x = n then (if y < 6 then some (n + 1 + y) else none) else mw_zr (kx_rF rl) n (n + 1 + 6) none x y) = mw_u (mw_u (mw_u (mw_u (mw_u (mw_u (mw_zr (kx_rF rl) n (n + 1 + 6) none) n 0 (some (n + 1))) n 1 (some (n + 2))) n 2 (some (n + 3))) n 3 (some (n + 4))) n 4 (some (n + 5))) n 5 (some (n + 6)) := by
    funext x y
    unfold mw_u
    by_cases h : x = n
    · rw [if_pos h, if_pos h]
      by_cases h5 : y = 5
      · rw [if_pos h5, h5]
        rfl
      rw [if_neg h5, if_pos h]
      by_cases h4 : y = 4
      · rw [if_pos h4, h4]
        rfl
      rw [if_neg h4, if_pos h]
      by_cases h3 : y = 3
      · rw [if_pos h3, h3]
        rfl
      rw [if_neg h3, if_pos h]
      by_cases h2 : y = 2
      · rw [if_pos h2, h2]
        rfl
      rw [if_neg h2, if_pos h]
      by_cases h1 : y = 1
      · rw [if_pos h1, h1]
        rfl
      rw [if_neg h1, if_pos h]
      by_cases h0 : y = 0
      · rw [if_pos h0, h0]
        rfl
      rw [if_neg h0, if_neg (by omega)]
      unfold mw_zr
      rw [if_pos (by omega)]
    · rw [if_neg h, if_neg h, if_neg h, if_neg h, if_neg h, if_neg h, if_neg h]
  have hK : (fun x => if x = n then some (26, 6) else if n ≤ x ∧ x < n + 1 + 6 then some (20, 6) else kx_kF kl x) = mw_k (mw_k (mw_k (mw_k (mw_k (mw_k (mw_k (kx_kF kl) n (some (26, 6))) (n + 1) (some (20, 6))) (n + 2) (some (20, 6))) (n + 3) (some (20, 6))) (n + 4) (some (20, 6))) (n + 5) (some (20, 6))) (n + 6) (some (20, 6)) := by
    funext x
    unfold mw_k
    by_cases h : n ≤ x ∧ x < n + 1 + 6
    · by_cases h0 : x = n
      · rw [if_pos h0, if_neg (by omega), if_neg (by omega), if_neg (by omega), if_neg (by omega), if_neg (by omega), if_neg (by omega), if_pos h0]
      rw [if_neg h0, if_pos h]
      by_cases h6 : x = n + 6
      · rw [if_pos h6]
      rw [if_neg h6]
      by_cases h5 : x = n + 5
      · rw [if_pos h5]
      rw [if_neg h5]
      by_cases h4 : x = n + 4
      · rw [if_pos h4]
      rw [if_neg h4]
      by_cases h3 : x = n + 3
      · rw [if_pos h3]
      rw [if_neg h3]
      by_cases h2 : x = n + 2
      · rw [if_pos h2]
      rw [if_neg h2, if_pos (by omega)]
    · rw [if_neg (by omega), if_neg h, if_neg (by omega), if_neg (by omega), if_neg (by omega), if_neg (by omega), if_neg (by omega), if_neg (by omega), if_neg (by omega)]
  have e0 : mw_mult (kx_m (il, rl, kl, n)) 6 6 = ((mw_zr (kx_iF il) n (n + 1 + 6) 0, mw_zr (fun (_ _ : Nat) => (0 : Int64)) n (n + 1 + 6) 0, mw_zr (fun (_ _ : Nat) => (0 : UInt64)) n (n + 1 + 6) 0, (fun x y => if x = n then (if y < 6 then some (n + 1 + y) else none) else mw_zr (kx_rF rl) n (n + 1 + 6) none x y), (fun x => if x = n then some (26, 6) else if n ≤ x ∧ x < n + 1 + 6 then some (20, 6) else kx_kF kl x), n + 1 + 6) : mw_Mem) := rfl
  rw [e0, hR, hK, kx_zr, kx_zr, kx_zr, kx_zr, kx_z0, kx_z0, kx_z0, kx_z0, kx_z0, kx_z0, kx_z0, kx_z0, kx_z0, kx_z0, kx_z0, kx_z0, kx_z0, kx_z0]
  rfl
section
variable {sc : Nat × (Nat → Int32)} {rt : Option FieldType} {q : mw_I} {pc : Nat} {ls : List (Option kx_V)} {st : List kx_V} {m : kx_M} {c sl : Nat} {g : kx_F} {K : mw_Fr → Prop} {Qr : Option Value → mw_Mem → Prop}
theorem kx_st_ok (h : kx_st q pc ls st m c sl = some g) (k : K (kx_f g)) : mw_app (mw_ins sc rt q pc (kx_l ls) (st.map kx_v) (kx_m m) c sl) K Qr := by
  obtain ⟨i, len, ⟨r1, r2, r3⟩, ps, y, kk⟩ := q
  cases i with
  | iconst n =>
    obtain rfl := Option.some.inj (show some (pc + 1, ls, Sum.inl kk :: st, m, c, sl) = some g from h)
    exact k
  | bipush n =>
    obtain rfl := Option.some.inj (show some (pc + 2, ls, Sum.inl kk :: st, m, c, sl) = some g from h)
    exact k
  | sipush n =>
    obtain rfl := Option.some.inj (show some (pc + 3, ls, Sum.inl kk :: st, m, c, sl) = some g from h)
    exact k
  | goto n =>
    obtain rfl := Option.some.inj (show some (r1, ls, st, m, c, sl) = some g from h)
    exact k
  | getstatic n =>
    unfold kx_st at h
    dsimp only at h
    split at h
    · rename_i h0
      subst h0
      obtain rfl := Option.some.inj h
      exact k
    · cases h
  | aload_n n =>
    unfold kx_st at h
    dsimp only at h
    split at h
    · rename_i a ha
      obtain rfl := Option.some.inj h
      unfold mw_ins
      dsimp only
      rw [kx_ld ha]
      exact k
    · cases h
  | iload_n n =>
    unfold kx_st at h
    dsimp only at h
    split at h
    · rename_i a ha
      obtain rfl := Option.some.inj h
      unfold mw_ins
      dsimp only
      rw [kx_ld ha]
      exact k
    · cases h
  | istore_n n =>
    unfold kx_st at h
    dsimp only at h
    split at h
    · rename_i x r
      split at h
      · rename_i hl
        obtain rfl := Option.some.inj h
        have k' : K (pc + len, kx_l (ls.set r1 (some (.inl x))), r.map kx_v, kx_m m, c, sl) := k
        rw [kx_set] at k'
        unfold mw_ins
        dsimp only [List.map, kx_v]
        rw [if_pos (kx_ok1 hl)]
        exact k'
      · cases h
    · cases h
  | istore n =>
    unfold kx_st at h
    dsimp only at h
    split at h
    · rename_i x r
      split at h
      · rename_i hl
        obtain rfl := Option.some.inj h
        have k' : K (pc + len, kx_l (ls.set r1 (some (.inl x))), r.map kx_v, kx_m m, c, sl) := k
        rw [kx_set] at k'
        unfold mw_ins
        dsimp only [List.map, kx_v]
        rw [if_pos (kx_ok1 hl)]
        exact k'
      · cases h
    · cases h
  | astore_n n =>
    unfold kx_st at h
    dsimp only at h
    split at h
    · rename_i x r
      split at h
      · rename_i hl
        obtain rfl := Option.some.inj h
        have k' : K (pc + len, kx_l (ls.set r1 (some (.inr x))), r.map kx_v, kx_m m, c, sl) := k
        rw [kx_set] at k'
        unfold mw_ins
        dsimp only [List.map, kx_v]
        rw [if_pos (kx_ok1 hl)]
        exact k'
      · cases h
    · cases h
  | astore n =>
    unfold kx_st at h
    dsimp only at h
    split at h
    · rename_i x r
      split at h
      · rename_i hl
        obtain rfl := Option.some.inj h
        have k' : K (pc + len, kx_l (ls.set r1 (some (.inr x))), r.map kx_v, kx_m m, c, sl) := k
        rw [kx_set] at k'
        unfold mw_ins
        dsimp only [List.map, kx_v]
        rw [if_pos (kx_ok1 hl)]
        exact k'
      · cases h
    · cases h
  | iinc a b =>
    unfold kx_st at h
    dsimp only at h
    split at h
    · rename_i x hx
      split at h
      · rename_i hl
        obtain rfl := Option.some.inj h
        have k' : K (pc + 3, kx_l (ls.set r1 (some (.inl (x + kk)))), st.map kx_v, kx_m m, c, sl) := k
        rw [kx_set] at k'
        unfold mw_ins
        dsimp only
        rw [kx_ld hx]
        dsimp only [kx_v]
        rw [if_pos (kx_ok1 hl)]
        exact k'
      · cases h
    · cases h
  | dup =>
    unfold kx_st at h
    dsimp only at h
    split at h
    · rename_i v r
      obtain rfl := Option.some.inj h
      cases v <;> exact k
    · cases h
  | if_icmp cd n =>
    unfold kx_st at h
    cases cd with
    | ge =>
      dsimp only at h
      split at h
      · rename_i y x r
        obtain rfl := Option.some.inj h
        refine ⟨fun (z : y ≤ x) => ?_, fun (z : ¬ y ≤ x) => ?_⟩
        · rw [if_pos z] at k
          exact k
        · rw [if_neg z] at k
          exact k
      · cases h
    | _ => cases h
  | ifCond cd n =>
    unfold kx_st at h
    cases cd with
    | eq =>
      dsimp only at h
      split at h
      · rename_i x r
        obtain rfl := Option.some.inj h
        refine ⟨fun (z : x = 0) => ?_, fun (z : ¬ x = 0) => ?_⟩
        · rw [if_pos z] at k
          exact k
        · rw [if_neg z] at k
          exact k
      · cases h
    | _ => cases h
  | getfield n =>
    unfold kx_st at h
    dsimp only at h
    split at h
    · rename_i a r
      split at h
      · rename_i ha
        split at h
        · rename_i k1 k2 hk
          split at h
          · rename_i hc
            split at h
            · rename_i b hb
              obtain rfl := Option.some.inj h
              obtain ⟨rfl, rfl⟩ := hc
              unfold mw_ins
              dsimp only [List.map, kx_v]
              rw [if_neg (show ¬ (1000001 ≤ a ∧ a < 1000031) by omega), show (kx_m m).2.2.2.2.1 a = some (k1, k2) from hk]
              dsimp only
              rw [if_pos rfl, show mw_gv 2 (kx_m m) a r2 = Value.ref b from by
                show mw_rv (kx_rF m.2.1 a r2) = Value.ref b
                rw [hb]
                rfl]
              exact k
            · cases h
          · cases h
        · cases h
      · cases h
    · cases h
  | putfield n =>
    unfold kx_st at h
    dsimp only at h
    split at h
    · rename_i x a r
      split at h
      · rename_i k1 k2 hk
        split at h
        · rename_i hc
          obtain rfl := Option.some.inj h
          obtain ⟨rfl, hc⟩ := hc
          unfold mw_ins
          dsimp only [List.map, kx_v]
          rw [show (kx_m m).2.2.2.2.1 a = some (k1, k2) from hk]
          dsimp only
          rw [if_pos rfl]
          rcases hc with rfl | ⟨rfl, hx⟩
          · exact k
          · exact ⟨hx, k⟩
        · cases h
      · cases h
    · rename_i x a r
      split at h
      · rename_i k1 k2 hk
        split at h
        · rename_i hc
          obtain rfl := Option.some.inj h
          obtain ⟨rfl, rfl⟩ := hc
          unfold mw_ins
          dsimp only [List.map, kx_v]
          rw [show (kx_m m).2.2.2.2.1 a = some (k1, k2) from hk]
          dsimp only
          rw [if_pos ⟨rfl, rfl⟩]
          exact k
        · cases h
      · cases h
    · cases h
  | aastore =>
    unfold kx_st at h
    dsimp only at h
    split at h
    · rename_i x i a r
      split at h
      · rename_i k1 n1 k2 n2 hk hk2
        split at h
        · rename_i hc
          obtain rfl := Option.some.inj h
          unfold mw_ins
          dsimp only [List.map, kx_v]
          rw [show (kx_m m).2.2.2.2.1 a = some (k1, n1) from hk, show (kx_m m).2.2.2.2.1 x = some (k2, n2) from hk2]
          dsimp only
          rw [if_pos hc.1]
          exact ⟨hc.2, k⟩
        · cases h
      · cases h
    · cases h
  | new n =>
    unfold kx_st at h
    dsimp only at h
    split at h
    · rename_i hc
      obtain rfl := Option.some.inj h
      have k' : K (pc + 3, kx_l ls, Value.ref m.2.2.2 :: st.map kx_v, kx_m (kx_new m (r1, r2)), c - 1, sl - r2) := k
      rw [← kx_new_m] at k'
      unfold mw_ins
      dsimp only
      rw [if_pos hc]
      exact k'
    · cases h
  | newarray t =>
    unfold kx_st at h
    dsimp only at h
    split at h
    · rename_i x r
      split at h
      · rename_i hc
        obtain rfl := Option.some.inj h
        have k' : K (pc + 2, kx_l ls, Value.ref m.2.2.2 :: r.map kx_v, kx_m (kx_new m (mw_akind t, x.toNatClampNeg)), c - 1, sl - x.toNatClampNeg) := k
        rw [← kx_new_m] at k'
        unfold mw_ins
        dsimp only [List.map, kx_v]
        rw [if_pos hc.1]
        exact ⟨hc.2, k'⟩
      · cases h
    · cases h
  | anewarray n =>
    unfold kx_st at h
    dsimp only at h
    split at h
    · rename_i x r
      split at h
      · rename_i hc
        obtain rfl := Option.some.inj h
        have k' : K (pc + 3, kx_l ls, Value.ref m.2.2.2 :: r.map kx_v, kx_m (kx_new m (25, x.toNatClampNeg)), c - 1, sl - x.toNatClampNeg) := k
        rw [← kx_new_m] at k'
        unfold mw_ins
        dsimp only [List.map, kx_v]
        rw [if_pos hc.1, if_neg hc.2.2]
        exact ⟨hc.2.1, k'⟩
      · cases h
    · cases h
  | multianewarray a b =>
    unfold kx_st at h
    dsimp only at h
    split at h
    · rename_i y x r
      split at h
      · rename_i hc
        obtain rfl := Option.some.inj h
        obtain ⟨rfl, rfl, h7, h42⟩ := hc
        have k' : K (pc + 4, kx_l ls, Value.ref m.2.2.2 :: r.map kx_v, kx_m (kx_six m), c - 7, sl - 42) := k
        rw [← kx_six_m] at k'
        unfold mw_ins
        dsimp only [List.map, kx_v]
        exact ⟨⟨by decide, by decide, by decide, by decide, h7, h42⟩, k'⟩
      · cases h
    · cases h
  | invokespecial n =>
    unfold kx_st at h
    dsimp only at h
    split at h
    · rename_i x r
      split at h
      · rename_i hc
        obtain rfl := Option.some.inj h
        unfold mw_ins
        dsimp only
        rw [if_pos hc]
        exact k
      · cases h
    · cases h
  | _ =>
    have h9 : (none : Option kx_F) = some g := h
    cases h9
end
def kx_isret (i : Instr) : Bool := match i with
  | .return_ => true
  | _ => false
def kx_iscall (q : mw_I) : Bool := match q.1 with
  | .invokespecial _ => decide (q.2.2.1.2.1 < 6)
  | _ => false
def kx_isr (cd : mw_CD) (g : kx_F) : Bool := match mw_lk cd g.1 with
  | some q => kx_isret q.1 && g.2.2.1.isEmpty && cd.2.2.2.1.isNone
  | none => false
def kx_find : List ((Nat × Nat) × mw_CD × Nat × Nat) → Nat → Nat → Option (mw_CD × Nat × Nat)
  | [], _, _ => none
  | e :: r, k, n => if e.1.1 = k ∧ e.1.2 = n then some e.2 else kx_find r k n
/-- the receiver's kind -/
def kx_rcv (m : kx_M) (v : Option kx_V) : Option Nat := match v with
  | some (.inr a) => (match kx_kF m.2.2.1 a with
    | some (k, _) => some k
    | none => none)
  | _ => none
/-- to the end, or to the pc stop -/
def kx_run (tb : List ((Nat × Nat) × mw_CD × Nat × Nat)) : Nat → Nat → mw_CD → kx_F → Option kx_F
  | _, 0, _, _ => none
  | stop, n + 1, cd, f => if f.1 = stop then some f else match mw_lk cd f.1 with
    | none => none
    | some q => match kx_isret q.1 with
      | true => some f
      | false => match kx_iscall q with
        | false => (match kx_st q f.1 f.2.1 f.2.2.1 f.2.2.2.1 f.2.2.2.2.1 f.2.2.2.2.2 with
          | some g => kx_run tb stop n cd g
          | none => none)
        | true => (match kx_rcv f.2.2.2.1 f.2.2.1[q.2.2.1.1 - 1]? with
          | none => none
          | some k => (match kx_find tb k q.2.2.1.1 with
            | none => none
            | some e => if (e.2.1 ≤ f.2.2.2.2.1 ∧ e.2.2 ≤ f.2.2.2.2.2) ∧ q.2.2.2.2.1 = e.1.1 ∧ mw_ck q e.1 (f.2.2.1.map kx_v) = true then
                (match kx_run tb 1000000 n e.1 (0, (f.2.2.1.take q.2.2.1.1).reverse.map some ++ List.replicate (e.1.2.2.1 - q.2.2.1.1) none, [], f.2.2.2.1, e.2.1, e.2.2) with
                | none => none
                | some g => if kx_isr e.1 g = true then kx_run tb stop n cd (f.1 + 3, f.2.1, f.2.2.1.drop q.2.2.1.1, g.2.2.2.1, f.2.2.2.2.1 - e.2.1, f.2.2.2.2.2 - e.2.2) else none)
              else none))
section
variable {sc : Nat × (Nat → Int32)} {tb : List ((Nat × Nat) × mw_CD × Nat × Nat)}
theorem kx_find_mem : ∀ {tb : List ((Nat × Nat) × mw_CD × Nat × Nat)} {k n : Nat} {e : mw_CD × Nat × Nat}, kx_find tb k n = some e → ∃ z ∈ tb, z.2 = e
  | [], k, n, e, h => by cases h
  | z :: r, k, n, e, h => by
    unfold kx_find at h
    split at h
    · exact ⟨z, List.mem_cons_self, Option.some.inj h⟩
    · obtain ⟨w, hw, he⟩ := kx_find_mem h
      exact ⟨w, List.mem_cons_of_mem _ hw, he⟩
theorem kx_ret_ok {Good : mw_CD → Prop} {cd : mw_CD} {D : Nat} {g : kx_F} {Qr : Option Value → mw_Mem → Prop} {Qx : Nat → mw_Mem → Prop} (h : kx_isr cd g = true) (k : Qr none (kx_m g.2.2.2.1)) : mw_Wp sc Good cd D (kx_f g) Qr Qx := by
  refine mw_Wp.in (Or.inl ?_)
  unfold kx_isr at h
  split at h
  · rename_i q hq
    simp only [Bool.and_eq_true] at h
    obtain ⟨⟨h1, h2⟩, h3⟩ := h
    unfold mw_stp
    rw [show (kx_f g).1 = g.1 from rfl, hq]
    obtain ⟨i, len, ⟨r1, r2, r3⟩, ps, y, kk⟩ := q
    have hi : i = .return_ := by
      unfold kx_isret at h1
      dsimp only at h1
      split at h1
      · rfl
      · cases h1
    subst hi
    have hs : (kx_f g).2.2.1 = [] := by
      show g.2.2.1.map kx_v = []
      rw [List.isEmpty_iff.mp h2]
      rfl
    rw [hs, Option.isNone_iff_eq_none.mp h3]
    exact k
  · cases h
theorem kx_run_ok (hT : ∀ e ∈ tb, mw_Good e.2.1) : ∀ (n stop : Nat) (cd : mw_CD) (f g : kx_F) (D : Nat) (Qr : Option Value → mw_Mem → Prop) (Qx : Nat → mw_Mem → Prop), n ≤ D → kx_run tb stop n cd f = some g → mw_Wp sc mw_Good cd D (kx_f g) Qr Qx → mw_Wp sc mw_Good cd D (kx_f f) Qr Qx := by
  intro n
  induction n with
  | zero =>
    intro stop cd f g D Qr Qx hD h k
    unfold kx_run at h
    cases h
  | succ n ih =>
    intro stop cd f g D Qr Qx hD h k
    unfold kx_run at h
    split at h
    · obtain rfl := Option.some.inj h
      exact k
    · split at h
      · cases h
      · rename_i q hq
        split at h
        · obtain rfl := Option.some.inj h
          exact k
        · split at h
          · split at h
            · rename_i g1 hg1
              refine mw_Wp.in (Or.inl ?_)
              unfold mw_stp
              rw [show (kx_f f).1 = f.1 from rfl, hq]
              exact kx_st_ok hg1 (ih stop cd g1 g D Qr Qx (by omega) h k)
            · cases h
          · rename_i hcall
            split at h
            · cases h
            · rename_i kd hkd
              split at h
              · cases h
              · rename_i e he
                split at h
                · rename_i hc
                  split at h
                  · cases h
                  · rename_i g1 hg1
                    split at h
                    · rename_i hr1
                      obtain ⟨⟨c1, c2⟩, c3, c4⟩ := hc
                      obtain ⟨z, hz, hze⟩ := kx_find_mem he
                      have hgood : mw_Good e.1 := by
                        rw [← hze]
                        exact hT z hz
                      have hrecv : mw_recv q (f.2.2.1.map kx_v) (kx_m f.2.2.2.1) := by
                        unfold kx_iscall at hcall
                        unfold mw_recv
                        split at hcall
                        · rename_i n1 hn1
                          rw [hn1]
                          dsimp only
                          unfold kx_rcv at hkd
                          split at hkd
                          · rename_i a ha
                            refine ⟨a, ?_, fun z6 => ?_⟩
                            · rw [List.getElem?_map, ha]
                              rfl
                            · have := of_decide_eq_true hcall
                              omega
                          · cases hkd
                        · cases hcall
                      have hlen : (f.2.2.1.take q.2.2.1.1).length = q.2.2.1.1 := by
                        have h9 := c4
                        unfold mw_ck at h9
                        simp only [Bool.and_eq_true, decide_eq_true_eq, List.length_map] at h9
                        rw [List.length_take]
                        omega
                      have hent : mw_entry e.1.2.2.1 ((f.2.2.1.map kx_v).take q.2.2.1.1).reverse = kx_l ((f.2.2.1.take q.2.2.1.1).reverse.map some ++ List.replicate (e.1.2.2.1 - q.2.2.1.1) none) := by
                        unfold mw_entry kx_l
                        rw [List.map_append, List.map_replicate, ← List.map_take, ← List.map_reverse, List.map_map, List.map_map, List.length_map, List.length_reverse, hlen]
                        rfl
                      refine mw_Wp.cal (pc := f.1) q e.1 n e.2.1 e.2.2 hq c4 c3 hgood (by omega) c1 c2 hrecv ?_
                      rw [hent]
                      refine ih 1000000 e.1 (0, _, [], f.2.2.2.1, e.2.1, e.2.2) g1 n _ _ (Nat.le_refl _) hg1 (kx_ret_ok hr1 ?_)
                      have k9 := ih stop cd _ g D Qr Qx (by omega) h k
                      rw [← List.map_drop]
                      exact k9
                    · cases h
                · cases h
end

