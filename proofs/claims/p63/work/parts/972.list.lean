/-! lists of small ints -/
theorem n_3 {a b : Nat} (h : a < 1000000) : ¬ (1000001 ≤ a ∧ a < 1000031) := by omega
section
variable {sc : Nat × (Nat → Int32)} {D c sl pc : Nat} {ls : List (Option Value)} {st : List Value} {M : mw_Mem} {Qr : Option Value → mw_Mem → Prop} {Qx : Nat → mw_Mem → Prop}
theorem r_gf {a ci n j t i len : Nat} {ps : List Nat} {y : MethodName} {k : Int32} {rt : Option FieldType} {v : Value} (ha : a < 1000000) (hk : M.2.2.2.2.1 a = some (ci, n)) (hv : mw_gv t M a j = v) : mw_ins sc rt (.getfield i, len, (ci, j, t), ps, y, k) pc ls (.ref a :: st) M c sl = some (.inl (pc + 3, ls, v :: st, M, c, sl)) := by
  unfold mw_ins
  dsimp only
  rw [if_neg (n_3 (b := 0) ha), hk]
  dsimp only
  rw [if_pos rfl, hv]
  rfl
theorem r_pfI {a ci n j i len : Nat} {ps : List Nat} {y : MethodName} {k x : Int32} {rt : Option FieldType} (hk : M.2.2.2.2.1 a = some (ci, n)) : mw_ins sc rt (.putfield i, len, (ci, j, 0), ps, y, k) pc ls (.int x :: .ref a :: st) M c sl = some (.inl (pc + 3, ls, st, mw_sI M a j x, c, sl)) := by
  unfold mw_ins
  dsimp only
  rw [hk]
  dsimp only
  rw [if_pos rfl]
  rfl
theorem r_pfR {a ci n j i len x : Nat} {ps : List Nat} {y : MethodName} {k : Int32} {rt : Option FieldType} (hk : M.2.2.2.2.1 a = some (ci, n)) : mw_ins sc rt (.putfield i, len, (ci, j, 2), ps, y, k) pc ls (.ref x :: .ref a :: st) M c sl = some (.inl (pc + 3, ls, st, mw_sR M a j (some x), c, sl)) := by
  unfold mw_ins
  dsimp only
  rw [hk]
  dsimp only
  rw [if_pos ⟨rfl, rfl⟩]
  rfl
theorem n_4 {e : Nat} (h : e < 1000000) : ¬ e = 1000000 ∧ ¬ mw_oa e = true := by
  refine ⟨by omega, ?_⟩
  unfold mw_oa
  simp only [Bool.or_eq_true, Bool.and_eq_true, decide_eq_true_eq]
  omega
theorem r_al {e n len : Nat} {z : Nat × Nat × Nat} {ps : List Nat} {y : MethodName} {k : Int32} {rt : Option FieldType} (he : e < 1000000) (hk : M.2.2.2.2.1 e = some (27, n)) : mw_ins sc rt (.arraylength, len, z, ps, y, k) pc ls (.ref e :: st) M c sl = some (.inl (pc + 1, ls, .int (Int32.ofNat n) :: st, M, c, sl)) := by
  unfold mw_ins
  dsimp only
  rw [if_neg (n_4 he).1, if_neg (n_4 he).2, hk]
  rfl
theorem r_al0 {len : Nat} {z : Nat × Nat × Nat} {ps : List Nat} {y : MethodName} {k : Int32} {rt : Option FieldType} (hk : M.2.2.2.2.1 1000203 = none) : mw_ins sc rt (.arraylength, len, z, ps, y, k) pc ls (.ref 1000203 :: st) M c sl = some (.inl (pc + 1, ls, .int 0 :: st, M, c, sl)) := by
  unfold mw_ins
  dsimp only
  rw [if_neg (by decide), if_neg (by decide), hk]
  rfl
theorem r_aas {e n len x : Nat} {i : Int32} {z : Nat × Nat × Nat} {ps : List Nat} {y : MethodName} {k : Int32} {rt : Option FieldType} (hk : M.2.2.2.2.1 e = some (27, n)) (hx : M.2.2.2.2.1 x = none) (hr : 1000500 ≤ x ∧ x < 1000756) : mw_ins sc rt (.aastore, len, z, ps, y, k) pc ls (.ref x :: .int i :: .ref e :: st) M c sl = some (.inr (.inr (.inl (vp_in i n, (pc + 1, ls, st, mw_sR M e i.toNatClampNeg (some x), c, sl))))) := by
  unfold mw_ins
  dsimp only
  rw [hk, hx]
  dsimp only
  rw [if_pos ⟨rfl, hr⟩]
  rfl
theorem r_aal {e n len x : Nat} {i : Int32} {z : Nat × Nat × Nat} {ps : List Nat} {y : MethodName} {k : Int32} {rt : Option FieldType} (hk : M.2.2.2.2.1 e = some (27, n)) (hx : M.2.2.2.1 e i.toNatClampNeg = some x) : mw_ins sc rt (.aaload, len, z, ps, y, k) pc ls (.int i :: .ref e :: st) M c sl = some (.inr (.inr (.inl (vp_in i n, (pc + 1, ls, .ref x :: st, M, c, sl))))) := by
  unfold mw_ins
  dsimp only
  rw [hk]
  dsimp only
  rw [if_neg (by decide), if_pos rfl, hx]
  rfl
theorem r_cache {len : Nat} {i : Int32} {z : Nat × Nat × Nat} {ps : List Nat} {y : MethodName} {k : Int32} {rt : Option FieldType} (hk : M.2.2.2.2.1 1000400 = none) : mw_ins sc rt (.aaload, len, z, ps, y, k) pc ls (.int i :: .ref 1000400 :: st) M c sl = some (.inr (.inr (.inl (vp_in i 256, (pc + 1, ls, .ref (1000500 + i.toNatClampNeg) :: st, M, c, sl))))) := by
  unfold mw_ins
  dsimp only
  rw [hk]
  rfl
theorem hq_sI {a j x : Nat} {v : Int32} (h : ¬ x = a) : hq M (mw_sI M a j v) x := ⟨by funext k; exact if_neg h, rfl, rfl, rfl, rfl⟩
theorem hq_sR {a j x : Nat} {v : Option Nat} (h : ¬ x = a) : hq M (mw_sR M a j v) x := ⟨rfl, rfl, rfl, by funext k; exact if_neg h, rfl⟩
theorem hq_nc {q : Nat × Nat} {x : Nat} (h : ¬ x = M.2.2.2.2.2) : hq M (mw_ncell M q) x := ⟨by funext k; exact if_neg h, by funext k; exact if_neg h, by funext k; exact if_neg h, by funext k; exact if_neg h, if_neg h⟩
theorem KN_nc {q : Nat × Nat} (h : M.2.2.2.2.2 < 1000000) : KN M (mw_ncell M q) := fun x a e => (if_neg (by omega)).trans e
/-- what work on a list at l does -/
def LF (l : Nat) (M M' : mw_Mem) : Prop := M.2.2.2.2.2 ≤ M'.2.2.2.2.2 ∧ (∀ x, x < l → hq M M' x) ∧ KN M M'
theorem LF.refl {l : Nat} : LF l M M := ⟨Nat.le_refl _, fun _ _ => hq.refl, fun _ _ h => h⟩
theorem LF.trans {l : Nat} {M' M'' : mw_Mem} (h : LF l M M') (k : LF l M' M'') : LF l M M'' := ⟨Nat.le_trans h.1 k.1, fun x a => (h.2.1 x a).trans (k.2.1 x a), fun x a e => k.2.2 x a (h.2.2 x a e)⟩
theorem LF.sI {l a j : Nat} {v : Int32} (h : l ≤ a) : LF l M (mw_sI M a j v) := ⟨Nat.le_refl _, fun x hx => hq_sI (by omega), fun _ _ h => h⟩
theorem LF.sR {l a j : Nat} {v : Option Nat} (h : l ≤ a) : LF l M (mw_sR M a j v) := ⟨Nat.le_refl _, fun x hx => hq_sR (by omega), fun _ _ h => h⟩
theorem LF.nc {l : Nat} {q : Nat × Nat} (h : l ≤ M.2.2.2.2.2) (h1 : M.2.2.2.2.2 < 1000000) : LF l M (mw_ncell M q) := ⟨Nat.le_succ _, fun x hx => hq_nc (by omega), KN_nc h1⟩
/-- a list of n small ints f at l, changed m times -/
def Lst (M : mw_Mem) (l m n : Nat) (f : Nat → Int) : Prop := (n ≤ 10 ∧ m ≤ 100 ∧ ∀ k, k < n → 0 ≤ f k ∧ f k < 128) ∧ (l < 1000000 ∧ l < M.2.2.2.2.2 ∧ M.2.2.2.2.1 l = some (16, 3)) ∧ (M.1 l 0 = Int32.ofInt (m : Int) ∧ M.1 l 2 = Int32.ofInt (n : Int)) ∧ ((n = 0 ∧ M.2.2.2.1 l 1 = some 1000203) ∨ (0 < n ∧ ∃ e, (e < 1000000 ∧ l < e ∧ e < M.2.2.2.2.2) ∧ M.2.2.2.1 l 1 = some e ∧ M.2.2.2.2.1 e = some (27, 10) ∧ ∀ k, k < n → M.2.2.2.1 e k = some (1000628 + (f k).toNat)))
theorem Lst.mono {M' : mw_Mem} {l m n : Nat} {f : Nat → Int} (h : Lst M l m n f) (hn : M.2.2.2.2.2 ≤ M'.2.2.2.2.2) (e : ∀ x, l ≤ x → x < M.2.2.2.2.2 → hq M M' x) : Lst M' l m n f := by
  obtain ⟨h1, ⟨a1, a2, a3⟩, ⟨b1, b2⟩, h4⟩ := h
  have x := e l (Nat.le_refl _) a2
  refine ⟨h1, ⟨a1, by omega, x.2.2.2.2.trans a3⟩, ⟨(congrFun x.1 0).trans b1, (congrFun x.1 2).trans b2⟩, ?_⟩
  rcases h4 with ⟨z, h4⟩ | ⟨z, e9, ⟨e1, e2, e3⟩, h5, h6, h7⟩
  · exact Or.inl ⟨z, (congrFun x.2.2.2.1 1).trans h4⟩
  · have y := e e9 (by omega) e3
    exact Or.inr ⟨z, e9, ⟨e1, e2, by omega⟩, (congrFun x.2.2.2.1 1).trans h5, y.2.2.2.2.trans h6, fun k hk => (congrFun y.2.2.2.1 k).trans (h7 k hk)⟩
theorem Lst.sz {l m n : Nat} {f : Nat → Int} (h : Lst M l m n f) : mw_gv 0 M l 2 = .int (Int32.ofInt (n : Int)) := by
  show Value.int (M.1 l 2) = _
  rw [h.2.2.1.2]
theorem Lst.mc {l m n : Nat} {f : Nat → Int} (h : Lst M l m n f) : mw_gv 0 M l 0 = .int (Int32.ofInt (m : Int)) := by
  show Value.int (M.1 l 0) = _
  rw [h.2.2.1.1]
theorem t_acol {l : Nat} (h : Qr none M) : mw_Wp sc mw_Good d_Jxa1e45_init_da8c8 D (0, [some (.ref l)], [], M, c, sl) Qr Qx := by
  refine lr _ (1, [some (.ref l)], [.ref l], M, c, sl) l_Jxa1e45_init_da8c8_0 rfl ?_
  refine lr _ (4, [some (.ref l)], [], M, c, sl) l_Jxa1e45_init_da8c8_1 rfl ?_
  exact lt_ret _ none l_Jxa1e45_init_da8c8_4 rfl h
theorem t_alis {l : Nat} (hk : M.2.2.2.2.1 l = some (16, 3)) (hD : 1 ≤ D) (h : Qr none (mw_sI M l 0 0)) : mw_Wp sc mw_Good d_Jxc12de_init_da8c8 D (0, [some (.ref l)], [], M, c, sl) Qr Qx := by
  refine lr _ (1, [some (.ref l)], [.ref l], M, c, sl) l_Jxc12de_init_da8c8_0 rfl ?_
  refine mw_Wp.cal _ d_Jxa1e45_init_da8c8 0 0 0 l_Jxc12de_init_da8c8_1 rfl rfl g_Jxa1e45_init_da8c8 (by omega) (Nat.zero_le _) (Nat.zero_le _) ⟨_, rfl, fun z9 => absurd z9 (by decide)⟩ ?_
  refine t_acol ?_
  show mw_Wp sc mw_Good d_Jxc12de_init_da8c8 D (4, [some (.ref l)], [], M, c - 0, sl - 0) Qr Qx
  refine lr _ (5, [some (.ref l)], [.ref l], M, c - 0, sl - 0) l_Jxc12de_init_da8c8_4 rfl ?_
  refine lr _ (6, [some (.ref l)], [.int 0, .ref l], M, c - 0, sl - 0) l_Jxc12de_init_da8c8_5 rfl ?_
  refine lr _ (9, [some (.ref l)], [], (mw_sI M l 0 0), c - 0, sl - 0) l_Jxc12de_init_da8c8_6 (r_pfI hk) ?_
  exact lt_ret _ none l_Jxc12de_init_da8c8_9 rfl h
theorem t_alini {l : Nat} (hk : M.2.2.2.2.1 l = some (16, 3)) (hD : 2 ≤ D) (h : Qr none (mw_sR (mw_sI M l 0 0) l 1 (some 1000203))) : mw_Wp sc mw_Good d_Jx4a65c_init_da8c8 D (0, [some (.ref l)], [], M, c, sl) Qr Qx := by
  refine lr _ (1, [some (.ref l)], [.ref l], M, c, sl) l_Jx4a65c_init_da8c8_0 rfl ?_
  refine mw_Wp.cal _ d_Jxc12de_init_da8c8 1 0 0 l_Jx4a65c_init_da8c8_1 rfl rfl g_Jxc12de_init_da8c8 (by omega) (Nat.zero_le _) (Nat.zero_le _) ⟨_, rfl, fun z9 => absurd z9 (by decide)⟩ ?_
  refine t_alis hk (by decide) ?_
  show mw_Wp sc mw_Good d_Jx4a65c_init_da8c8 D (4, [some (.ref l)], [], (mw_sI M l 0 0), c - 0, sl - 0) Qr Qx
  refine lr _ (5, [some (.ref l)], [.ref l], (mw_sI M l 0 0), c - 0, sl - 0) l_Jx4a65c_init_da8c8_4 rfl ?_
  refine lr _ (8, [some (.ref l)], [.ref 1000203, .ref l], (mw_sI M l 0 0), c - 0, sl - 0) l_Jx4a65c_init_da8c8_5 rfl ?_
  refine lr _ (11, [some (.ref l)], [], (mw_sR (mw_sI M l 0 0) l 1 (some 1000203)), c - 0, sl - 0) l_Jx4a65c_init_da8c8_8 (r_pfR hk) ?_
  exact lt_ret _ none l_Jx4a65c_init_da8c8_11 rfl h
theorem Lst.new {f : Nat → Int} (hM : M.2.2.2.2.2 < 1000000) : Lst (mw_sR (mw_sI (mw_ncell M (16, 3)) M.2.2.2.2.2 0 0) M.2.2.2.2.2 1 (some 1000203)) M.2.2.2.2.2 0 0 f ∧ LF M.2.2.2.2.2 M (mw_sR (mw_sI (mw_ncell M (16, 3)) M.2.2.2.2.2 0 0) M.2.2.2.2.2 1 (some 1000203)) := by
  refine ⟨⟨⟨by decide, by decide, fun k hk => absurd hk (Nat.not_lt_zero _)⟩, ⟨hM, Nat.lt_succ_self _, if_pos rfl⟩, ⟨?_, ?_⟩, Or.inl ⟨rfl, ?_⟩⟩, ((LF.nc (Nat.le_refl _) hM).trans (LF.sI (Nat.le_refl _))).trans (LF.sR (Nat.le_refl _))⟩
  · show mw_u (mw_z M.1 M.2.2.2.2.2 0) M.2.2.2.2.2 0 0 M.2.2.2.2.2 0 = _
    unfold mw_u
    rw [if_pos rfl, if_pos rfl]
    rfl
  · show mw_u (mw_z M.1 M.2.2.2.2.2 0) M.2.2.2.2.2 0 0 M.2.2.2.2.2 2 = _
    unfold mw_u mw_z
    rw [if_pos rfl, if_neg (by decide), if_pos rfl]
    rfl
  · show mw_u _ M.2.2.2.2.2 1 (some 1000203) M.2.2.2.2.2 1 = _
    unfold mw_u
    rw [if_pos rfl, if_pos rfl]
theorem t_valueOf {v : Int} (hv : 0 ≤ v ∧ v < 128) (hk : M.2.2.2.2.1 1000400 = none) (h : Qr (some (.ref (1000628 + v.toNat))) M) : mw_Wp sc mw_Good d_J6_valueOf_2dffe D (0, [some (.int (Int32.ofInt v))], [], M, c, sl) Qr Qx := by
  refine lr _ (1, [some (.int (Int32.ofInt v))], [.int (Int32.ofInt v)], M, c, sl) l_J6_valueOf_2dffe_0 rfl ?_
  refine lr _ (3, [some (.int (Int32.ofInt v))], [.int (-128), .int (Int32.ofInt v)], M, c, sl) l_J6_valueOf_2dffe_1 rfl ?_
  refine lbF _ ((Int32.ofInt v) < (-128)) (23, [some (.int (Int32.ofInt v))], [], M, c, sl) (6, [some (.int (Int32.ofInt v))], [], M, c, sl) l_J6_valueOf_2dffe_3 rfl (by
    rw [show (-128 : Int32) = Int32.ofInt (-128) from rfl, nw_lt ⟨by omega, by omega⟩ ⟨by decide, by decide⟩]
    omega) ?_
  refine lr _ (7, [some (.int (Int32.ofInt v))], [.int (Int32.ofInt v)], M, c, sl) l_J6_valueOf_2dffe_6 rfl ?_
  refine lr _ (10, [some (.int (Int32.ofInt v))], [.int 127, .int (Int32.ofInt v)], M, c, sl) l_J6_valueOf_2dffe_7 rfl ?_
  refine lbF _ (127 < (Int32.ofInt v)) (23, [some (.int (Int32.ofInt v))], [], M, c, sl) (13, [some (.int (Int32.ofInt v))], [], M, c, sl) l_J6_valueOf_2dffe_10 rfl (by
    rw [show (127 : Int32) = Int32.ofInt 127 from rfl, nw_lt ⟨by decide, by decide⟩ ⟨by omega, by omega⟩]
    omega) ?_
  refine lr _ (16, [some (.int (Int32.ofInt v))], [.ref 1000400], M, c, sl) l_J6_valueOf_2dffe_13 rfl ?_
  refine lr _ (17, [some (.int (Int32.ofInt v))], [.int (Int32.ofInt v), .ref 1000400], M, c, sl) l_J6_valueOf_2dffe_16 rfl ?_
  refine lr _ (20, [some (.int (Int32.ofInt v))], [.int 128, .int (Int32.ofInt v), .ref 1000400], M, c, sl) l_J6_valueOf_2dffe_17 rfl ?_
  refine lr _ (21, [some (.int (Int32.ofInt v))], [.int ((Int32.ofInt v) + 128), .ref 1000400], M, c, sl) l_J6_valueOf_2dffe_20 rfl ?_
  have e1 : Int32.ofInt v + 128 = Int32.ofInt (v + 128) := by
    rw [Int32.ofInt_add]
    rfl
  rw [e1]
  refine ld _ (vp_in (Int32.ofInt (v + 128)) 256) (22, [some (.int (Int32.ofInt v))], [.ref (1000500 + (Int32.ofInt (v + 128)).toNatClampNeg)], M, c, sl) l_J6_valueOf_2dffe_21 (r_cache hk) (nw_vpin ⟨by omega, by omega⟩ ⟨by omega, by omega⟩) ?_
  rw [show 1000500 + (Int32.ofInt (v + 128)).toNatClampNeg = 1000628 + v.toNat by rw [nw_cl ⟨by omega, by omega⟩]; omega]
  exact lt_ret _ (some (.ref (1000628 + v.toNat))) l_J6_valueOf_2dffe_22 rfl h
theorem t_max10 (h : Qr (some (.int 10)) M) : mw_Wp sc mw_Good d_J9_max_7cf53 D (0, [some (.int 10), some (.int (0 + 1))], [], M, c, sl) Qr Qx := by
  have l0 : mw_lk d_J9_max_7cf53 0 = some (mw_b (.iload_n 0) 1 0) := mw_is_eq (by decide +kernel)
  have l1 : mw_lk d_J9_max_7cf53 1 = some (mw_b (.iload_n 1) 1 1) := mw_is_eq (by decide +kernel)
  have l2 : mw_lk d_J9_max_7cf53 2 = some (mw_b (.if_icmp .lt 7) 3 9) := mw_is_eq (by decide +kernel)
  have l5 : mw_lk d_J9_max_7cf53 5 = some (mw_b (.iload_n 0) 1 0) := mw_is_eq (by decide +kernel)
  have l6 : mw_lk d_J9_max_7cf53 6 = some (mw_b (.goto 4) 3 10) := mw_is_eq (by decide +kernel)
  have l9 : mw_lk d_J9_max_7cf53 9 = some (mw_b (.iload_n 1) 1 1) := mw_is_eq (by decide +kernel)
  have l10 : mw_lk d_J9_max_7cf53 10 = some (mw_a (.ireturn) 1) := mw_is_eq (by decide +kernel)
  refine lr _ (1, [some (.int 10), some (.int (0 + 1))], [.int 10], M, c, sl) l0 rfl ?_
  refine lr _ (2, [some (.int 10), some (.int (0 + 1))], [.int (0 + 1), .int 10], M, c, sl) l1 rfl ?_
  refine lbF _ (10 < (0 + 1)) (9, [some (.int 10), some (.int (0 + 1))], [], M, c, sl) (5, [some (.int 10), some (.int (0 + 1))], [], M, c, sl) l2 rfl (by decide) ?_
  refine lr _ (6, [some (.int 10), some (.int (0 + 1))], [.int 10], M, c, sl) l5 rfl ?_
  refine lr _ (10, [some (.int 10), some (.int (0 + 1))], [.int 10], M, c, sl) l6 rfl ?_
  exact lt_ret _ (some (.int 10)) l10 rfl h
theorem t_grow2 {l m : Nat} {f : Nat → Int} (hL : Lst M l m 0 f) (hM : M.2.2.2.2.2 < 1000000) (hk0 : M.2.2.2.2.1 1000203 = none) (hD : 1 ≤ D) (h : Qr (some (.ref M.2.2.2.2.2)) (mw_sR (mw_ncell M (27, 10)) l 1 (some M.2.2.2.2.2))) : mw_Wp sc mw_Good d_Jx4a65c_grow_92f84 D (0, [some (.ref l), some (.int (0 + 1)), none, none], [], M, 1, 10) Qr Qx := by
  obtain ⟨h1, ⟨a1, a2, a3⟩, ⟨b1, b2⟩, h4⟩ := hL
  have r1 : M.2.2.2.1 l 1 = some 1000203 := h4.elim (fun z => z.2) (fun z => absurd z.1 (by decide))
  have gv : mw_gv 2 M l 1 = .ref 1000203 := by
    show mw_rv (M.2.2.2.1 l 1) = _
    rw [r1]
    rfl
  have ne : ¬ l = M.2.2.2.2.2 := by omega
  refine lr _ (1, [some (.ref l), some (.int (0 + 1)), none, none], [.ref l], M, 1, 10) l_Jx4a65c_grow_92f84_0 rfl ?_
  refine lr _ (4, [some (.ref l), some (.int (0 + 1)), none, none], [.ref 1000203], M, 1, 10) l_Jx4a65c_grow_92f84_1 (r_gf a1 a3 gv) ?_
  refine lr _ (5, [some (.ref l), some (.int (0 + 1)), none, none], [.int 0], M, 1, 10) l_Jx4a65c_grow_92f84_4 (r_al0 hk0) ?_
  refine lr _ (6, [some (.ref l), some (.int (0 + 1)), some (.int 0), none], [], M, 1, 10) l_Jx4a65c_grow_92f84_5 rfl ?_
  refine lr _ (7, [some (.ref l), some (.int (0 + 1)), some (.int 0), none], [.int 0], M, 1, 10) l_Jx4a65c_grow_92f84_6 rfl ?_
  refine lbF _ (0 < 0) (20, [some (.ref l), some (.int (0 + 1)), some (.int 0), none], [], M, 1, 10) (10, [some (.ref l), some (.int (0 + 1)), some (.int 0), none], [], M, 1, 10) l_Jx4a65c_grow_92f84_7 rfl (by decide) ?_
  refine lr _ (11, [some (.ref l), some (.int (0 + 1)), some (.int 0), none], [.ref l], M, 1, 10) l_Jx4a65c_grow_92f84_10 rfl ?_
  refine lr _ (14, [some (.ref l), some (.int (0 + 1)), some (.int 0), none], [.ref 1000203], M, 1, 10) l_Jx4a65c_grow_92f84_11 (r_gf a1 a3 gv) ?_
  refine lr _ (17, [some (.ref l), some (.int (0 + 1)), some (.int 0), none], [.ref 1000203, .ref 1000203], M, 1, 10) l_Jx4a65c_grow_92f84_14 rfl ?_
  refine lr _ (45, [some (.ref l), some (.int (0 + 1)), some (.int 0), none], [], M, 1, 10) l_Jx4a65c_grow_92f84_17 rfl ?_
  refine lr _ (46, [some (.ref l), some (.int (0 + 1)), some (.int 0), none], [.ref l], M, 1, 10) l_Jx4a65c_grow_92f84_45 rfl ?_
  refine lr _ (48, [some (.ref l), some (.int (0 + 1)), some (.int 0), none], [.int 10, .ref l], M, 1, 10) l_Jx4a65c_grow_92f84_46 rfl ?_
  refine lr _ (49, [some (.ref l), some (.int (0 + 1)), some (.int 0), none], [.int (0 + 1), .int 10, .ref l], M, 1, 10) l_Jx4a65c_grow_92f84_48 rfl ?_
  refine mw_Wp.cal _ d_J9_max_7cf53 0 0 0 l_Jx4a65c_grow_92f84_49 rfl rfl g_J9_max_7cf53 (by omega) (Nat.zero_le _) (Nat.zero_le _) True.intro ?_
  refine t_max10 ?_
  show mw_Wp sc mw_Good d_Jx4a65c_grow_92f84 D (52, [some (.ref l), some (.int (0 + 1)), some (.int 0), none], [.int 10, .ref l], M, 1 - 0, 10 - 0) Qr Qx
  refine ld _ (¬ (10 : Int32) < 0 ∧ (10 : Int32).toNatClampNeg ≤ 60000000 ∧ (10 : Int32).toNatClampNeg ≤ 10 - 0) (55, [some (.ref l), some (.int (0 + 1)), some (.int 0), none], [.ref M.2.2.2.2.2, .ref l], (mw_ncell M (27, 10)), 1 - 0 - 1, 10 - 0 - 10) l_Jx4a65c_grow_92f84_52 rfl (by decide) ?_
  refine lr _ (56, [some (.ref l), some (.int (0 + 1)), some (.int 0), none], [.ref M.2.2.2.2.2, .ref l, .ref M.2.2.2.2.2], (mw_ncell M (27, 10)), 1 - 0 - 1, 10 - 0 - 10) l_Jx4a65c_grow_92f84_55 rfl ?_
  refine lr _ (59, [some (.ref l), some (.int (0 + 1)), some (.int 0), none], [.ref M.2.2.2.2.2], (mw_sR (mw_ncell M (27, 10)) l 1 (some M.2.2.2.2.2)), 1 - 0 - 1, 10 - 0 - 10) l_Jx4a65c_grow_92f84_56 (r_pfR ((if_neg ne).trans a3)) ?_
  exact lt_ret _ (some (.ref M.2.2.2.2.2)) l_Jx4a65c_grow_92f84_59 rfl h
theorem t_grow1 {l m : Nat} {f : Nat → Int} (hL : Lst M l m 0 f) (hM : M.2.2.2.2.2 < 1000000) (hk0 : M.2.2.2.2.1 1000203 = none) (hD : 2 ≤ D) (h : Qr (some (.ref M.2.2.2.2.2)) (mw_sR (mw_ncell M (27, 10)) l 1 (some M.2.2.2.2.2))) : mw_Wp sc mw_Good d_Jx4a65c_grow_d5877 D (0, [some (.ref l)], [], M, 1, 10) Qr Qx := by
  refine lr _ (1, [some (.ref l)], [.ref l], M, 1, 10) l_Jx4a65c_grow_d5877_0 rfl ?_
  refine lr _ (2, [some (.ref l)], [.ref l, .ref l], M, 1, 10) l_Jx4a65c_grow_d5877_1 rfl ?_
  refine lr _ (5, [some (.ref l)], [.int (Int32.ofInt ((0 : Nat) : Int)), .ref l], M, 1, 10) l_Jx4a65c_grow_d5877_2 (r_gf hL.2.1.1 hL.2.1.2.2 hL.sz) ?_
  rw [show Int32.ofInt ((0 : Nat) : Int) = 0 from rfl]
  refine lr _ (6, [some (.ref l)], [.int 1, .int 0, .ref l], M, 1, 10) l_Jx4a65c_grow_d5877_5 rfl ?_
  refine lr _ (7, [some (.ref l)], [.int (0 + 1), .ref l], M, 1, 10) l_Jx4a65c_grow_d5877_6 rfl ?_
  refine mw_Wp.cal _ d_Jx4a65c_grow_92f84 1 1 10 l_Jx4a65c_grow_d5877_7 rfl rfl g_Jx4a65c_grow_92f84 (by omega) (by decide) (by decide) (Or.inl ⟨_, _, rfl, hL.2.1.2.2⟩) ?_
  refine t_grow2 hL hM hk0 (by decide) ?_
  show mw_Wp sc mw_Good d_Jx4a65c_grow_d5877 D (10, [some (.ref l)], [.ref M.2.2.2.2.2], (mw_sR (mw_ncell M (27, 10)) l 1 (some M.2.2.2.2.2)), 1 - 1, 10 - 10) Qr Qx
  exact lt_ret _ (some (.ref M.2.2.2.2.2)) l_Jx4a65c_grow_d5877_10 rfl h
/-- f with v at n -/
def f_at (f : Nat → Int) (n : Nat) (v : Int) : Nat → Int := fun k => if k = n then v else f k
theorem Lst.put {l m n e : Nat} {f : Nat → Int} {v : Int} (h1 : n ≤ 9 ∧ m ≤ 100 ∧ ∀ k, k < n → 0 ≤ f k ∧ f k < 128) (hv : 0 ≤ v ∧ v < 128) (a : l < 1000000 ∧ l < M.2.2.2.2.2 ∧ M.2.2.2.2.1 l = some (16, 3)) (b : M.1 l 0 = Int32.ofInt (m : Int)) (e1 : e < 1000000 ∧ l < e ∧ e < M.2.2.2.2.2) (h5 : M.2.2.2.1 l 1 = some e) (h6 : M.2.2.2.2.1 e = some (27, 10)) (h7 : ∀ k, k < n → M.2.2.2.1 e k = some (1000628 + (f k).toNat)) : Lst (mw_sI (mw_sR M e n (some (1000628 + v.toNat))) l 2 (Int32.ofInt ((n + 1 : Nat) : Int))) l m (n + 1) (f_at f n v) := by
  have ne : ¬ l = e := by omega
  refine ⟨⟨by omega, h1.2.1, fun k hk => ?_⟩, a, ⟨?_, ?_⟩, Or.inr ⟨Nat.succ_pos _, e, e1, ?_, h6, fun k hk => ?_⟩⟩
  · unfold f_at
    split
    · exact hv
    · exact h1.2.2 k (by omega)
  · show mw_u M.1 l 2 _ l 0 = _
    unfold mw_u
    rw [if_pos rfl, if_neg (by decide)]
    exact b
  · show mw_u M.1 l 2 _ l 2 = _
    unfold mw_u
    rw [if_pos rfl, if_pos rfl]
  · show mw_u M.2.2.2.1 e n _ l 1 = _
    unfold mw_u
    rw [if_neg ne]
    exact h5
  · show mw_u M.2.2.2.1 e n _ e k = _
    unfold mw_u f_at
    rw [if_pos rfl]
    split
    · rfl
    · exact h7 k (by omega)
theorem t_add2 {l m n : Nat} {f : Nat → Int} {v : Int} {e9 : Nat} (hL : Lst M l m n f) (hn : n ≤ 9) (hv : 0 ≤ v ∧ v < 128) (hM : M.2.2.2.2.2 < 1000000) (hkn : ∀ x, 1000000 ≤ x → M.2.2.2.2.1 x = none) (he : M.2.2.2.1 l 1 = some e9) (hD : 3 ≤ D) (h : ∀ M', Lst M' l m (n + 1) (f_at f n v) → LF l M M' → Qr none M') : mw_Wp sc mw_Good d_Jx4a65c_add_72be8 D (0, [some (.ref l), some (.ref (1000628 + v.toNat)), some (.ref e9), some (.int (Int32.ofInt (n : Int)))], [], M, 1, 10) Qr Qx := by
  obtain ⟨h1, ⟨a1, a2, a3⟩, ⟨b1, b2⟩, h4⟩ := id hL
  have vk : 1000500 ≤ 1000628 + v.toNat ∧ 1000628 + v.toNat < 1000756 := by omega
  have cl : (Int32.ofInt (n : Int)).toNatClampNeg = n := by
    rw [nw_cl ⟨by omega, by omega⟩]
    omega
  have ek : Int32.ofInt (n : Int) + 1 = Int32.ofInt ((n + 1 : Nat) : Int) := by
    rw [Int.natCast_add, Int32.ofInt_add]
    rfl
  rcases h4 with ⟨rfl, h4⟩ | ⟨z, e, ⟨e1, e2, e3⟩, h5, h6, h7⟩
  · obtain rfl : 1000203 = e9 := Option.some.inj (h4.symm.trans he)
    refine lr _ (1, [some (.ref l), some (.ref (1000628 + v.toNat)), some (.ref 1000203), some (.int (Int32.ofInt ((0 : Nat) : Int)))], [.int (Int32.ofInt ((0 : Nat) : Int))], M, 1, 10) l_Jx4a65c_add_72be8_0 rfl ?_
    refine lr _ (2, [some (.ref l), some (.ref (1000628 + v.toNat)), some (.ref 1000203), some (.int (Int32.ofInt ((0 : Nat) : Int)))], [.ref 1000203, .int (Int32.ofInt ((0 : Nat) : Int))], M, 1, 10) l_Jx4a65c_add_72be8_1 rfl ?_
    refine lr _ (3, [some (.ref l), some (.ref (1000628 + v.toNat)), some (.ref 1000203), some (.int (Int32.ofInt ((0 : Nat) : Int)))], [.int 0, .int (Int32.ofInt ((0 : Nat) : Int))], M, 1, 10) l_Jx4a65c_add_72be8_2 (r_al0 (hkn _ (by decide))) ?_
    refine lbF _ (¬ (Int32.ofInt ((0 : Nat) : Int)) = 0) (11, [some (.ref l), some (.ref (1000628 + v.toNat)), some (.ref 1000203), some (.int (Int32.ofInt ((0 : Nat) : Int)))], [], M, 1, 10) (6, [some (.ref l), some (.ref (1000628 + v.toNat)), some (.ref 1000203), some (.int (Int32.ofInt ((0 : Nat) : Int)))], [], M, 1, 10) l_Jx4a65c_add_72be8_3 rfl (fun z => z rfl) ?_
    refine lr _ (7, [some (.ref l), some (.ref (1000628 + v.toNat)), some (.ref 1000203), some (.int (Int32.ofInt ((0 : Nat) : Int)))], [.ref l], M, 1, 10) l_Jx4a65c_add_72be8_6 rfl ?_
    refine mw_Wp.cal _ d_Jx4a65c_grow_d5877 2 1 10 l_Jx4a65c_add_72be8_7 rfl rfl g_Jx4a65c_grow_d5877 (by omega) (by decide) (by decide) (Or.inl ⟨_, _, rfl, a3⟩) ?_
    refine t_grow1 hL hM (hkn _ (by decide)) (by decide) ?_
    show mw_Wp sc mw_Good d_Jx4a65c_add_72be8 D (10, [some (.ref l), some (.ref (1000628 + v.toNat)), some (.ref 1000203), some (.int (Int32.ofInt ((0 : Nat) : Int)))], [.ref M.2.2.2.2.2], (mw_sR (mw_ncell M (27, 10)) l 1 (some M.2.2.2.2.2)), 1 - 1, 10 - 10) Qr Qx
    refine lr _ (11, [some (.ref l), some (.ref (1000628 + v.toNat)), some (.ref M.2.2.2.2.2), some (.int (Int32.ofInt ((0 : Nat) : Int)))], [], (mw_sR (mw_ncell M (27, 10)) l 1 (some M.2.2.2.2.2)), 1 - 1, 10 - 10) l_Jx4a65c_add_72be8_10 rfl ?_
    refine lr _ (12, [some (.ref l), some (.ref (1000628 + v.toNat)), some (.ref M.2.2.2.2.2), some (.int (Int32.ofInt ((0 : Nat) : Int)))], [.ref M.2.2.2.2.2], (mw_sR (mw_ncell M (27, 10)) l 1 (some M.2.2.2.2.2)), 1 - 1, 10 - 10) l_Jx4a65c_add_72be8_11 rfl ?_
    refine lr _ (13, [some (.ref l), some (.ref (1000628 + v.toNat)), some (.ref M.2.2.2.2.2), some (.int (Int32.ofInt ((0 : Nat) : Int)))], [.int (Int32.ofInt ((0 : Nat) : Int)), .ref M.2.2.2.2.2], (mw_sR (mw_ncell M (27, 10)) l 1 (some M.2.2.2.2.2)), 1 - 1, 10 - 10) l_Jx4a65c_add_72be8_12 rfl ?_
    refine lr _ (14, [some (.ref l), some (.ref (1000628 + v.toNat)), some (.ref M.2.2.2.2.2), some (.int (Int32.ofInt ((0 : Nat) : Int)))], [.ref (1000628 + v.toNat), .int (Int32.ofInt ((0 : Nat) : Int)), .ref M.2.2.2.2.2], (mw_sR (mw_ncell M (27, 10)) l 1 (some M.2.2.2.2.2)), 1 - 1, 10 - 10) l_Jx4a65c_add_72be8_13 rfl ?_
    have ne : ¬ l = M.2.2.2.2.2 := by omega
    have nx : ¬ 1000628 + v.toNat = M.2.2.2.2.2 := by omega
    refine ld _ (vp_in (Int32.ofInt ((0 : Nat) : Int)) 10) (15, [some (.ref l), some (.ref (1000628 + v.toNat)), some (.ref M.2.2.2.2.2), some (.int (Int32.ofInt ((0 : Nat) : Int)))], [], (mw_sR (mw_sR (mw_ncell M (27, 10)) l 1 (some M.2.2.2.2.2)) M.2.2.2.2.2 (Int32.ofInt ((0 : Nat) : Int)).toNatClampNeg (some (1000628 + v.toNat))), 1 - 1, 10 - 10) l_Jx4a65c_add_72be8_14 (r_aas (e := M.2.2.2.2.2) (if_pos rfl) ((if_neg nx).trans (hkn _ (by omega))) vk) (nw_vpin ⟨by decide, by decide⟩ ⟨by decide, by decide⟩) ?_
    rw [cl]
    refine lr _ (16, [some (.ref l), some (.ref (1000628 + v.toNat)), some (.ref M.2.2.2.2.2), some (.int (Int32.ofInt ((0 : Nat) : Int)))], [.ref l], (mw_sR (mw_sR (mw_ncell M (27, 10)) l 1 (some M.2.2.2.2.2)) M.2.2.2.2.2 0 (some (1000628 + v.toNat))), 1 - 1, 10 - 10) l_Jx4a65c_add_72be8_15 rfl ?_
    refine lr _ (17, [some (.ref l), some (.ref (1000628 + v.toNat)), some (.ref M.2.2.2.2.2), some (.int (Int32.ofInt ((0 : Nat) : Int)))], [.int (Int32.ofInt ((0 : Nat) : Int)), .ref l], (mw_sR (mw_sR (mw_ncell M (27, 10)) l 1 (some M.2.2.2.2.2)) M.2.2.2.2.2 0 (some (1000628 + v.toNat))), 1 - 1, 10 - 10) l_Jx4a65c_add_72be8_16 rfl ?_
    refine lr _ (18, [some (.ref l), some (.ref (1000628 + v.toNat)), some (.ref M.2.2.2.2.2), some (.int (Int32.ofInt ((0 : Nat) : Int)))], [.int 1, .int (Int32.ofInt ((0 : Nat) : Int)), .ref l], (mw_sR (mw_sR (mw_ncell M (27, 10)) l 1 (some M.2.2.2.2.2)) M.2.2.2.2.2 0 (some (1000628 + v.toNat))), 1 - 1, 10 - 10) l_Jx4a65c_add_72be8_17 rfl ?_
    refine lr _ (19, [some (.ref l), some (.ref (1000628 + v.toNat)), some (.ref M.2.2.2.2.2), some (.int (Int32.ofInt ((0 : Nat) : Int)))], [.int ((Int32.ofInt ((0 : Nat) : Int)) + 1), .ref l], (mw_sR (mw_sR (mw_ncell M (27, 10)) l 1 (some M.2.2.2.2.2)) M.2.2.2.2.2 0 (some (1000628 + v.toNat))), 1 - 1, 10 - 10) l_Jx4a65c_add_72be8_18 rfl ?_
    rw [ek]
    refine lr _ (22, [some (.ref l), some (.ref (1000628 + v.toNat)), some (.ref M.2.2.2.2.2), some (.int (Int32.ofInt ((0 : Nat) : Int)))], [], (mw_sI (mw_sR (mw_sR (mw_ncell M (27, 10)) l 1 (some M.2.2.2.2.2)) M.2.2.2.2.2 0 (some (1000628 + v.toNat))) l 2 (Int32.ofInt ((0 + 1 : Nat) : Int))), 1 - 1, 10 - 10) l_Jx4a65c_add_72be8_19 (r_pfI (n := 3) ((if_neg ne).trans a3)) ?_
    refine lt_ret _ none l_Jx4a65c_add_72be8_22 rfl (h _ (Lst.put (M := (mw_sR (mw_ncell M (27, 10)) l 1 (some M.2.2.2.2.2))) (e := M.2.2.2.2.2) ⟨hn, h1.2⟩ hv ⟨a1, Nat.lt_succ_of_lt a2, (if_neg ne).trans a3⟩ ?_ ⟨hM, a2, Nat.lt_succ_self _⟩ ?_ (if_pos rfl) (fun k hk => absurd hk (Nat.not_lt_zero _))) ((((LF.nc (Nat.le_of_lt a2) hM).trans (LF.sR (Nat.le_refl _))).trans (LF.sR (Nat.le_of_lt a2))).trans (LF.sI (Nat.le_refl _))))
    · show mw_z M.1 M.2.2.2.2.2 0 l 0 = _
      exact (if_neg ne).trans b1
    · show mw_u _ l 1 _ l 1 = _
      unfold mw_u
      rw [if_pos rfl, if_pos rfl]
  · obtain rfl : e = e9 := Option.some.inj (h5.symm.trans he)
    refine lr _ (1, [some (.ref l), some (.ref (1000628 + v.toNat)), some (.ref e), some (.int (Int32.ofInt (n : Int)))], [.int (Int32.ofInt (n : Int))], M, 1, 10) l_Jx4a65c_add_72be8_0 rfl ?_
    refine lr _ (2, [some (.ref l), some (.ref (1000628 + v.toNat)), some (.ref e), some (.int (Int32.ofInt (n : Int)))], [.ref e, .int (Int32.ofInt (n : Int))], M, 1, 10) l_Jx4a65c_add_72be8_1 rfl ?_
    refine lr _ (3, [some (.ref l), some (.ref (1000628 + v.toNat)), some (.ref e), some (.int (Int32.ofInt (n : Int)))], [.int (Int32.ofNat 10), .int (Int32.ofInt (n : Int))], M, 1, 10) l_Jx4a65c_add_72be8_2 (r_al e1 h6) ?_
    refine lbT _ (¬ (Int32.ofInt (n : Int)) = (Int32.ofNat 10)) (11, [some (.ref l), some (.ref (1000628 + v.toNat)), some (.ref e), some (.int (Int32.ofInt (n : Int)))], [], M, 1, 10) (6, [some (.ref l), some (.ref (1000628 + v.toNat)), some (.ref e), some (.int (Int32.ofInt (n : Int)))], [], M, 1, 10) l_Jx4a65c_add_72be8_3 rfl (fun z => by
      rw [show Int32.ofNat 10 = Int32.ofInt 10 from rfl, nw_inj ⟨by omega, by omega⟩ ⟨by decide, by decide⟩] at z
      omega) ?_
    refine lr _ (12, [some (.ref l), some (.ref (1000628 + v.toNat)), some (.ref e), some (.int (Int32.ofInt (n : Int)))], [.ref e], M, 1, 10) l_Jx4a65c_add_72be8_11 rfl ?_
    refine lr _ (13, [some (.ref l), some (.ref (1000628 + v.toNat)), some (.ref e), some (.int (Int32.ofInt (n : Int)))], [.int (Int32.ofInt (n : Int)), .ref e], M, 1, 10) l_Jx4a65c_add_72be8_12 rfl ?_
    refine lr _ (14, [some (.ref l), some (.ref (1000628 + v.toNat)), some (.ref e), some (.int (Int32.ofInt (n : Int)))], [.ref (1000628 + v.toNat), .int (Int32.ofInt (n : Int)), .ref e], M, 1, 10) l_Jx4a65c_add_72be8_13 rfl ?_
    refine ld _ (vp_in (Int32.ofInt (n : Int)) 10) (15, [some (.ref l), some (.ref (1000628 + v.toNat)), some (.ref e), some (.int (Int32.ofInt (n : Int)))], [], (mw_sR M e (Int32.ofInt (n : Int)).toNatClampNeg (some (1000628 + v.toNat))), 1, 10) l_Jx4a65c_add_72be8_14 (r_aas h6 (hkn _ (by omega)) vk) (nw_vpin ⟨by omega, by omega⟩ ⟨by omega, by omega⟩) ?_
    rw [cl]
    refine lr _ (16, [some (.ref l), some (.ref (1000628 + v.toNat)), some (.ref e), some (.int (Int32.ofInt (n : Int)))], [.ref l], (mw_sR M e n (some (1000628 + v.toNat))), 1, 10) l_Jx4a65c_add_72be8_15 rfl ?_
    refine lr _ (17, [some (.ref l), some (.ref (1000628 + v.toNat)), some (.ref e), some (.int (Int32.ofInt (n : Int)))], [.int (Int32.ofInt (n : Int)), .ref l], (mw_sR M e n (some (1000628 + v.toNat))), 1, 10) l_Jx4a65c_add_72be8_16 rfl ?_
    refine lr _ (18, [some (.ref l), some (.ref (1000628 + v.toNat)), some (.ref e), some (.int (Int32.ofInt (n : Int)))], [.int 1, .int (Int32.ofInt (n : Int)), .ref l], (mw_sR M e n (some (1000628 + v.toNat))), 1, 10) l_Jx4a65c_add_72be8_17 rfl ?_
    refine lr _ (19, [some (.ref l), some (.ref (1000628 + v.toNat)), some (.ref e), some (.int (Int32.ofInt (n : Int)))], [.int ((Int32.ofInt (n : Int)) + 1), .ref l], (mw_sR M e n (some (1000628 + v.toNat))), 1, 10) l_Jx4a65c_add_72be8_18 rfl ?_
    rw [ek]
    refine lr _ (22, [some (.ref l), some (.ref (1000628 + v.toNat)), some (.ref e), some (.int (Int32.ofInt (n : Int)))], [], (mw_sI (mw_sR M e n (some (1000628 + v.toNat))) l 2 (Int32.ofInt ((n + 1 : Nat) : Int))), 1, 10) l_Jx4a65c_add_72be8_19 (r_pfI (n := 3) a3) ?_
    exact lt_ret _ none l_Jx4a65c_add_72be8_22 rfl (h _ (Lst.put ⟨hn, h1.2⟩ hv ⟨a1, a2, a3⟩ b1 ⟨e1, e2, e3⟩ h5 h6 h7) ((LF.sR (Nat.le_of_lt e2)).trans (LF.sI (Nat.le_refl _))))
theorem t_add {l m n : Nat} {f : Nat → Int} {v : Int} (hL : Lst M l m n f) (hn : n ≤ 9) (hm : m ≤ 99) (hv : 0 ≤ v ∧ v < 128) (hM : M.2.2.2.2.2 < 1000000) (hkn : ∀ x, 1000000 ≤ x → M.2.2.2.2.1 x = none) (hD : 4 ≤ D) (h : ∀ M', Lst M' l (m + 1) (n + 1) (f_at f n v) → LF l M M' → Qr (some (.int 1)) M') : mw_Wp sc mw_Good d_Jx4a65c_add_9ea2d D (0, [some (.ref l), some (.ref (1000628 + v.toNat))], [], M, 1, 10) Qr Qx := by
  obtain ⟨h1, ⟨a1, a2, a3⟩, ⟨b1, b2⟩, h4⟩ := id hL
  have ek : Int32.ofInt (m : Int) + 1 = Int32.ofInt ((m + 1 : Nat) : Int) := by
    rw [Int.natCast_add, Int32.ofInt_add]
    rfl
  refine lr _ (1, [some (.ref l), some (.ref (1000628 + v.toNat))], [.ref l], M, 1, 10) l_Jx4a65c_add_9ea2d_0 rfl ?_
  refine lr _ (2, [some (.ref l), some (.ref (1000628 + v.toNat))], [.ref l, .ref l], M, 1, 10) l_Jx4a65c_add_9ea2d_1 rfl ?_
  refine lr _ (5, [some (.ref l), some (.ref (1000628 + v.toNat))], [.int (Int32.ofInt (m : Int)), .ref l], M, 1, 10) l_Jx4a65c_add_9ea2d_2 (r_gf a1 a3 hL.mc) ?_
  refine lr _ (6, [some (.ref l), some (.ref (1000628 + v.toNat))], [.int 1, .int (Int32.ofInt (m : Int)), .ref l], M, 1, 10) l_Jx4a65c_add_9ea2d_5 rfl ?_
  refine lr _ (7, [some (.ref l), some (.ref (1000628 + v.toNat))], [.int ((Int32.ofInt (m : Int)) + 1), .ref l], M, 1, 10) l_Jx4a65c_add_9ea2d_6 rfl ?_
  rw [ek]
  refine lr _ (10, [some (.ref l), some (.ref (1000628 + v.toNat))], [], (mw_sI M l 0 (Int32.ofInt ((m + 1 : Nat) : Int))), 1, 10) l_Jx4a65c_add_9ea2d_7 (r_pfI a3) ?_
  have hL1 : Lst (mw_sI M l 0 (Int32.ofInt ((m + 1 : Nat) : Int))) l (m + 1) n f := by
    refine ⟨⟨h1.1, by omega, h1.2.2⟩, ⟨a1, a2, a3⟩, ⟨?_, ?_⟩, h4⟩
    · show mw_u M.1 l 0 _ l 0 = _
      unfold mw_u
      rw [if_pos rfl, if_pos rfl]
    · show mw_u M.1 l 0 _ l 2 = _
      unfold mw_u
      rw [if_pos rfl, if_neg (by decide)]
      exact b2
  obtain ⟨e9, he⟩ : ∃ e9, M.2.2.2.1 l 1 = some e9 := h4.elim (fun z => ⟨_, z.2⟩) (fun z => z.2.elim (fun e y => ⟨_, y.2.1⟩))
  have gv : mw_gv 2 (mw_sI M l 0 (Int32.ofInt ((m + 1 : Nat) : Int))) l 1 = .ref e9 := by
    show mw_rv (M.2.2.2.1 l 1) = _
    rw [he]
    rfl
  refine lr _ (11, [some (.ref l), some (.ref (1000628 + v.toNat))], [.ref l], (mw_sI M l 0 (Int32.ofInt ((m + 1 : Nat) : Int))), 1, 10) l_Jx4a65c_add_9ea2d_10 rfl ?_
  refine lr _ (12, [some (.ref l), some (.ref (1000628 + v.toNat))], [.ref (1000628 + v.toNat), .ref l], (mw_sI M l 0 (Int32.ofInt ((m + 1 : Nat) : Int))), 1, 10) l_Jx4a65c_add_9ea2d_11 rfl ?_
  refine lr _ (13, [some (.ref l), some (.ref (1000628 + v.toNat))], [.ref l, .ref (1000628 + v.toNat), .ref l], (mw_sI M l 0 (Int32.ofInt ((m + 1 : Nat) : Int))), 1, 10) l_Jx4a65c_add_9ea2d_12 rfl ?_
  refine lr _ (16, [some (.ref l), some (.ref (1000628 + v.toNat))], [.ref e9, .ref (1000628 + v.toNat), .ref l], (mw_sI M l 0 (Int32.ofInt ((m + 1 : Nat) : Int))), 1, 10) l_Jx4a65c_add_9ea2d_13 (r_gf a1 a3 gv) ?_
  refine lr _ (17, [some (.ref l), some (.ref (1000628 + v.toNat))], [.ref l, .ref e9, .ref (1000628 + v.toNat), .ref l], (mw_sI M l 0 (Int32.ofInt ((m + 1 : Nat) : Int))), 1, 10) l_Jx4a65c_add_9ea2d_16 rfl ?_
  refine lr _ (20, [some (.ref l), some (.ref (1000628 + v.toNat))], [.int (Int32.ofInt (n : Int)), .ref e9, .ref (1000628 + v.toNat), .ref l], (mw_sI M l 0 (Int32.ofInt ((m + 1 : Nat) : Int))), 1, 10) l_Jx4a65c_add_9ea2d_17 (r_gf a1 a3 hL1.sz) ?_
  refine mw_Wp.cal _ d_Jx4a65c_add_72be8 3 1 10 l_Jx4a65c_add_9ea2d_20 rfl rfl g_Jx4a65c_add_72be8 (by omega) (by decide) (by decide) (Or.inl ⟨_, _, rfl, a3⟩) ?_
  refine t_add2 hL1 hn hv hM hkn he (by decide) (fun M1 L1 F1 => ?_)
  show mw_Wp sc mw_Good d_Jx4a65c_add_9ea2d D (23, [some (.ref l), some (.ref (1000628 + v.toNat))], [], M1, 1 - 1, 10 - 10) Qr Qx
  refine lr _ (24, [some (.ref l), some (.ref (1000628 + v.toNat))], [.int 1], M1, 1 - 1, 10 - 10) l_Jx4a65c_add_9ea2d_23 rfl ?_
  exact lt_retP _ _ (some (.int 1)) l_Jx4a65c_add_9ea2d_24 rfl ⟨_, rfl, by decide⟩ (h M1 L1 ((LF.sI (Nat.le_refl _)).trans F1))
/-- the list's iterator at i has given k -/
def Itr (M : mw_Mem) (i l m k : Nat) : Prop := (i < 1000000 ∧ l < i ∧ i < M.2.2.2.2.2 ∧ M.2.2.2.2.1 i = some (17, 4)) ∧ (M.1 i 0 = Int32.ofInt (k : Int) ∧ M.1 i 2 = Int32.ofInt (m : Int)) ∧ M.2.2.2.1 i 3 = some l
theorem Itr.mono {M' : mw_Mem} {i l m k : Nat} (h : Itr M i l m k) (hn : M.2.2.2.2.2 ≤ M'.2.2.2.2.2) (e : hq M M' i) : Itr M' i l m k := by
  obtain ⟨⟨a1, a2, a3, a4⟩, ⟨b1, b2⟩, h3⟩ := h
  exact ⟨⟨a1, a2, by omega, e.2.2.2.2.trans a4⟩, ⟨(congrFun e.1 0).trans b1, (congrFun e.1 2).trans b2⟩, (congrFun e.2.2.2.1 3).trans h3⟩
theorem t_itini {l m n i : Nat} {f : Nat → Int} (hL : Lst M l m n f) (hi : i < 1000000 ∧ ¬ l = i) (hk : M.2.2.2.2.1 i = some (17, 4)) (h : Qr none (mw_sI (mw_sI (mw_sR M i 3 (some l)) i 1 (-1)) i 2 (Int32.ofInt (m : Int)))) : mw_Wp sc mw_Good d_Jx35411_init_45d68 D (0, [some (.ref i), some (.ref l)], [], M, c, sl) Qr Qx := by
  refine lr _ (1, [some (.ref i), some (.ref l)], [.ref i], M, c, sl) l_Jx35411_init_45d68_0 rfl ?_
  refine lr _ (2, [some (.ref i), some (.ref l)], [.ref l, .ref i], M, c, sl) l_Jx35411_init_45d68_1 rfl ?_
  refine lr _ (5, [some (.ref i), some (.ref l)], [], (mw_sR M i 3 (some l)), c, sl) l_Jx35411_init_45d68_2 (r_pfR hk) ?_
  refine lr _ (6, [some (.ref i), some (.ref l)], [.ref i], (mw_sR M i 3 (some l)), c, sl) l_Jx35411_init_45d68_5 rfl ?_
  refine lr _ (9, [some (.ref i), some (.ref l)], [], (mw_sR M i 3 (some l)), c, sl) l_Jx35411_init_45d68_6 rfl ?_
  refine lr _ (10, [some (.ref i), some (.ref l)], [.ref i], (mw_sR M i 3 (some l)), c, sl) l_Jx35411_init_45d68_9 rfl ?_
  refine lr _ (11, [some (.ref i), some (.ref l)], [.int (-1), .ref i], (mw_sR M i 3 (some l)), c, sl) l_Jx35411_init_45d68_10 rfl ?_
  refine lr _ (14, [some (.ref i), some (.ref l)], [], (mw_sI (mw_sR M i 3 (some l)) i 1 (-1)), c, sl) l_Jx35411_init_45d68_11 (r_pfI hk) ?_
  have gv : mw_gv 2 (mw_sI (mw_sR M i 3 (some l)) i 1 (-1)) i 3 = .ref l := by
    show mw_rv (mw_u M.2.2.2.1 i 3 (some l) i 3) = _
    unfold mw_u
    rw [if_pos rfl, if_pos rfl]
    rfl
  have gm : mw_gv 0 (mw_sI (mw_sR M i 3 (some l)) i 1 (-1)) l 0 = .int (Int32.ofInt (m : Int)) := by
    show Value.int (mw_u M.1 i 1 (-1) l 0) = _
    unfold mw_u
    rw [if_neg hi.2, hL.2.2.1.1]
  refine lr _ (15, [some (.ref i), some (.ref l)], [.ref i], (mw_sI (mw_sR M i 3 (some l)) i 1 (-1)), c, sl) l_Jx35411_init_45d68_14 rfl ?_
  refine lr _ (16, [some (.ref i), some (.ref l)], [.ref i, .ref i], (mw_sI (mw_sR M i 3 (some l)) i 1 (-1)), c, sl) l_Jx35411_init_45d68_15 rfl ?_
  refine lr _ (19, [some (.ref i), some (.ref l)], [.ref l, .ref i], (mw_sI (mw_sR M i 3 (some l)) i 1 (-1)), c, sl) l_Jx35411_init_45d68_16 (r_gf hi.1 hk gv) ?_
  refine lr _ (22, [some (.ref i), some (.ref l)], [.int (Int32.ofInt (m : Int)), .ref i], (mw_sI (mw_sR M i 3 (some l)) i 1 (-1)), c, sl) l_Jx35411_init_45d68_19 (r_gf hL.2.1.1 hL.2.1.2.2 gm) ?_
  refine lr _ (25, [some (.ref i), some (.ref l)], [], (mw_sI (mw_sI (mw_sR M i 3 (some l)) i 1 (-1)) i 2 (Int32.ofInt (m : Int))), c, sl) l_Jx35411_init_45d68_22 (r_pfI hk) ?_
  exact lt_ret _ none l_Jx35411_init_45d68_25 rfl h
theorem t_iter {l m n : Nat} {f : Nat → Int} (hL : Lst M l m n f) (hM : M.2.2.2.2.2 < 1000000) (hD : 1 ≤ D) (h : ∀ M', Lst M' l m n f → Itr M' M.2.2.2.2.2 l m 0 → LF M.2.2.2.2.2 M M' → Qr (some (.ref M.2.2.2.2.2)) M') : mw_Wp sc mw_Good d_Jx4a65c_iterator_32c93 D (0, [some (.ref l)], [], M, 1, 4) Qr Qx := by
  have ne : ¬ l = M.2.2.2.2.2 := by have := hL.2.1.2.1; omega
  have hL1 : Lst (mw_ncell M (17, 4)) l m n f := hL.mono (Nat.le_succ _) (fun x _ hx => hq_nc (by omega))
  refine lr _ (3, [some (.ref l)], [.ref M.2.2.2.2.2], (mw_ncell M (17, 4)), 1 - 1, 4 - 4) l_Jx4a65c_iterator_32c93_0 rfl ?_
  refine lr _ (4, [some (.ref l)], [.ref M.2.2.2.2.2, .ref M.2.2.2.2.2], (mw_ncell M (17, 4)), 1 - 1, 4 - 4) l_Jx4a65c_iterator_32c93_3 rfl ?_
  refine lr _ (5, [some (.ref l)], [.ref l, .ref M.2.2.2.2.2, .ref M.2.2.2.2.2], (mw_ncell M (17, 4)), 1 - 1, 4 - 4) l_Jx4a65c_iterator_32c93_4 rfl ?_
  refine mw_Wp.cal _ d_Jx35411_init_45d68 0 0 0 l_Jx4a65c_iterator_32c93_5 rfl rfl g_Jx35411_init_45d68 (by omega) (Nat.zero_le _) (Nat.zero_le _) ⟨_, rfl, fun z9 => absurd z9 (by decide)⟩ ?_
  refine t_itini hL1 ⟨hM, ne⟩ (if_pos rfl) ?_
  show mw_Wp sc mw_Good d_Jx4a65c_iterator_32c93 D (8, [some (.ref l)], [.ref M.2.2.2.2.2], (mw_sI (mw_sI (mw_sR (mw_ncell M (17, 4)) M.2.2.2.2.2 3 (some l)) M.2.2.2.2.2 1 (-1)) M.2.2.2.2.2 2 (Int32.ofInt (m : Int))), 1 - 1 - 0, 4 - 4 - 0) Qr Qx
  have F : LF M.2.2.2.2.2 (mw_ncell M (17, 4)) (mw_sI (mw_sI (mw_sR (mw_ncell M (17, 4)) M.2.2.2.2.2 3 (some l)) M.2.2.2.2.2 1 (-1)) M.2.2.2.2.2 2 (Int32.ofInt (m : Int))) := ((LF.sR (Nat.le_refl _)).trans (LF.sI (Nat.le_refl _))).trans (LF.sI (Nat.le_refl _))
  refine lt_ret _ (some (.ref M.2.2.2.2.2)) l_Jx4a65c_iterator_32c93_8 rfl (h _ (hL.mono (Nat.le_trans (Nat.le_succ _) F.1) (fun x x0 x1 => (hq_nc (by omega)).trans (F.2.1 x x1))) ⟨⟨hM, by have := hL.2.1.2.1; omega, Nat.lt_succ_self _, if_pos rfl⟩, ⟨?_, ?_⟩, ?_⟩ ((LF.nc (Nat.le_refl _) hM).trans F))
  · show mw_u _ M.2.2.2.2.2 2 _ M.2.2.2.2.2 0 = _
    unfold mw_u
    rw [if_pos rfl, if_neg (by decide)]
    show mw_u _ M.2.2.2.2.2 1 _ M.2.2.2.2.2 0 = _
    unfold mw_u
    rw [if_pos rfl, if_neg (by decide)]
    exact if_pos rfl
  · show mw_u _ M.2.2.2.2.2 2 _ M.2.2.2.2.2 2 = _
    unfold mw_u
    rw [if_pos rfl, if_pos rfl]
  · show mw_u _ M.2.2.2.2.2 3 _ M.2.2.2.2.2 3 = _
    unfold mw_u
    rw [if_pos rfl, if_pos rfl]
theorem t_hasN {l m n i k : Nat} {f : Nat → Int} (hL : Lst M l m n f) (hI : Itr M i l m k) (hk : k < n) (h : Qr (some (.int 1)) M) : mw_Wp sc mw_Good d_Jx35411_hasNext_aae02 D (0, [some (.ref i)], [], M, c, sl) Qr Qx := by
  obtain ⟨⟨a1, a2, a3, a4⟩, ⟨b1, b2⟩, h3⟩ := id hI
  have gc : mw_gv 0 M i 0 = .int (Int32.ofInt (k : Int)) := by
    show Value.int (M.1 i 0) = _
    rw [b1]
  have gl : mw_gv 2 M i 3 = .ref l := by
    show mw_rv (M.2.2.2.1 i 3) = _
    rw [h3]
    rfl
  have ge : mw_gv 0 M i 2 = .int (Int32.ofInt (m : Int)) := by
    show Value.int (M.1 i 2) = _
    rw [b2]
  have n10 := hL.1.1
  refine lr _ (1, [some (.ref i)], [.ref i], M, c, sl) l_Jx35411_hasNext_aae02_0 rfl ?_
  refine lr _ (4, [some (.ref i)], [.int (Int32.ofInt (k : Int))], M, c, sl) l_Jx35411_hasNext_aae02_1 (r_gf a1 a4 gc) ?_
  refine lr _ (5, [some (.ref i)], [.ref i, .int (Int32.ofInt (k : Int))], M, c, sl) l_Jx35411_hasNext_aae02_4 rfl ?_
  refine lr _ (8, [some (.ref i)], [.ref l, .int (Int32.ofInt (k : Int))], M, c, sl) l_Jx35411_hasNext_aae02_5 (r_gf a1 a4 gl) ?_
  refine lr _ (11, [some (.ref i)], [.int (Int32.ofInt (n : Int)), .int (Int32.ofInt (k : Int))], M, c, sl) l_Jx35411_hasNext_aae02_8 (r_gf hL.2.1.1 hL.2.1.2.2 hL.sz) ?_
  refine lbF _ ((Int32.ofInt (k : Int)) = (Int32.ofInt (n : Int))) (18, [some (.ref i)], [], M, c, sl) (14, [some (.ref i)], [], M, c, sl) l_Jx35411_hasNext_aae02_11 rfl (fun z => by
    rw [nw_inj ⟨by omega, by omega⟩ ⟨by omega, by omega⟩] at z
    omega) ?_
  refine lr _ (15, [some (.ref i)], [.int 1], M, c, sl) l_Jx35411_hasNext_aae02_14 rfl ?_
  refine lr _ (19, [some (.ref i)], [.int 1], M, c, sl) l_Jx35411_hasNext_aae02_15 rfl ?_
  exact lt_retP _ _ (some (.int 1)) l_Jx35411_hasNext_aae02_19 rfl ⟨_, rfl, by decide⟩ h
theorem t_hasE {l m n i k : Nat} {f : Nat → Int} (hL : Lst M l m n f) (hI : Itr M i l m k) (hk : k = n) (h : Qr (some (.int 0)) M) : mw_Wp sc mw_Good d_Jx35411_hasNext_aae02 D (0, [some (.ref i)], [], M, c, sl) Qr Qx := by
  obtain ⟨⟨a1, a2, a3, a4⟩, ⟨b1, b2⟩, h3⟩ := id hI
  have gc : mw_gv 0 M i 0 = .int (Int32.ofInt (k : Int)) := by
    show Value.int (M.1 i 0) = _
    rw [b1]
  have gl : mw_gv 2 M i 3 = .ref l := by
    show mw_rv (M.2.2.2.1 i 3) = _
    rw [h3]
    rfl
  have ge : mw_gv 0 M i 2 = .int (Int32.ofInt (m : Int)) := by
    show Value.int (M.1 i 2) = _
    rw [b2]
  have n10 := hL.1.1
  refine lr _ (1, [some (.ref i)], [.ref i], M, c, sl) l_Jx35411_hasNext_aae02_0 rfl ?_
  refine lr _ (4, [some (.ref i)], [.int (Int32.ofInt (k : Int))], M, c, sl) l_Jx35411_hasNext_aae02_1 (r_gf a1 a4 gc) ?_
  refine lr _ (5, [some (.ref i)], [.ref i, .int (Int32.ofInt (k : Int))], M, c, sl) l_Jx35411_hasNext_aae02_4 rfl ?_
  refine lr _ (8, [some (.ref i)], [.ref l, .int (Int32.ofInt (k : Int))], M, c, sl) l_Jx35411_hasNext_aae02_5 (r_gf a1 a4 gl) ?_
  refine lr _ (11, [some (.ref i)], [.int (Int32.ofInt (n : Int)), .int (Int32.ofInt (k : Int))], M, c, sl) l_Jx35411_hasNext_aae02_8 (r_gf hL.2.1.1 hL.2.1.2.2 hL.sz) ?_
  refine lbT _ ((Int32.ofInt (k : Int)) = (Int32.ofInt (n : Int))) (18, [some (.ref i)], [], M, c, sl) (14, [some (.ref i)], [], M, c, sl) l_Jx35411_hasNext_aae02_11 rfl (by rw [hk]) ?_
  refine lr _ (19, [some (.ref i)], [.int 0], M, c, sl) l_Jx35411_hasNext_aae02_18 rfl ?_
  exact lt_retP _ _ (some (.int 0)) l_Jx35411_hasNext_aae02_19 rfl ⟨_, rfl, by decide⟩ h
theorem t_comod {l m n i k : Nat} {f : Nat → Int} (hL : Lst M l m n f) (hI : Itr M i l m k) (h : Qr none M) : mw_Wp sc mw_Good d_Jx35411_checkForComodification_da8c8 D (0, [some (.ref i)], [], M, c, sl) Qr Qx := by
  obtain ⟨⟨a1, a2, a3, a4⟩, ⟨b1, b2⟩, h3⟩ := id hI
  have gc : mw_gv 0 M i 0 = .int (Int32.ofInt (k : Int)) := by
    show Value.int (M.1 i 0) = _
    rw [b1]
  have gl : mw_gv 2 M i 3 = .ref l := by
    show mw_rv (M.2.2.2.1 i 3) = _
    rw [h3]
    rfl
  have ge : mw_gv 0 M i 2 = .int (Int32.ofInt (m : Int)) := by
    show Value.int (M.1 i 2) = _
    rw [b2]
  have n10 := hL.1.1
  refine lr _ (1, [some (.ref i)], [.ref i], M, c, sl) l_Jx35411_checkForComodification_da8c8_0 rfl ?_
  refine lr _ (4, [some (.ref i)], [.ref l], M, c, sl) l_Jx35411_checkForComodification_da8c8_1 (r_gf a1 a4 gl) ?_
  refine lr _ (7, [some (.ref i)], [.int (Int32.ofInt (m : Int))], M, c, sl) l_Jx35411_checkForComodification_da8c8_4 (r_gf hL.2.1.1 hL.2.1.2.2 hL.mc) ?_
  refine lr _ (8, [some (.ref i)], [.ref i, .int (Int32.ofInt (m : Int))], M, c, sl) l_Jx35411_checkForComodification_da8c8_7 rfl ?_
  refine lr _ (11, [some (.ref i)], [.int (Int32.ofInt (m : Int)), .int (Int32.ofInt (m : Int))], M, c, sl) l_Jx35411_checkForComodification_da8c8_8 (r_gf a1 a4 ge) ?_
  refine lbT _ ((Int32.ofInt (m : Int)) = (Int32.ofInt (m : Int))) (22, [some (.ref i)], [], M, c, sl) (14, [some (.ref i)], [], M, c, sl) l_Jx35411_checkForComodification_da8c8_11 rfl rfl ?_
  exact lt_ret _ none l_Jx35411_checkForComodification_da8c8_22 rfl h
theorem t_next {l m n i k : Nat} {f : Nat → Int} (hL : Lst M l m n f) (hI : Itr M i l m k) (hk : k < n) (he : ∀ e, M.2.2.2.1 l 1 = some e → ¬ e = i) (hD : 1 ≤ D) (h : ∀ M', Lst M' l m n f → Itr M' i l m (k + 1) → (∀ x, ¬ x = i → hq M M' x) → M'.2.2.2.2.2 = M.2.2.2.2.2 → KN M M' → Qr (some (.ref (1000628 + (f k).toNat))) M') : mw_Wp sc mw_Good d_Jx35411_next_0502b D (0, [some (.ref i), none, none], [], M, c, sl) Qr Qx := by
  obtain ⟨⟨a1, a2, a3, a4⟩, ⟨b1, b2⟩, h3⟩ := id hI
  have gc : mw_gv 0 M i 0 = .int (Int32.ofInt (k : Int)) := by
    show Value.int (M.1 i 0) = _
    rw [b1]
  have gl : mw_gv 2 M i 3 = .ref l := by
    show mw_rv (M.2.2.2.1 i 3) = _
    rw [h3]
    rfl
  have ge : mw_gv 0 M i 2 = .int (Int32.ofInt (m : Int)) := by
    show Value.int (M.1 i 2) = _
    rw [b2]
  have n10 := hL.1.1
  obtain ⟨z, e, ⟨e1, e2, e3⟩, h5, h6, h7⟩ := hL.2.2.2.resolve_left (fun z => by omega)
  have nei := he e h5
  have ga : mw_gv 2 M l 1 = .ref e := by
    show mw_rv (M.2.2.2.1 l 1) = _
    rw [h5]
    rfl
  have cl : (Int32.ofInt (k : Int)).toNatClampNeg = k := by
    rw [nw_cl ⟨by omega, by omega⟩]
    omega
  have ek : Int32.ofInt (k : Int) + 1 = Int32.ofInt ((k + 1 : Nat) : Int) := by
    rw [Int.natCast_add, Int32.ofInt_add]
    rfl
  refine lr _ (1, [some (.ref i), none, none], [.ref i], M, c, sl) l_Jx35411_next_0502b_0 rfl ?_
  refine mw_Wp.cal _ d_Jx35411_checkForComodification_da8c8 0 0 0 l_Jx35411_next_0502b_1 rfl rfl g_Jx35411_checkForComodification_da8c8 (by omega) (Nat.zero_le _) (Nat.zero_le _) (Or.inl ⟨_, _, rfl, a4⟩) ?_
  refine t_comod hL hI ?_
  show mw_Wp sc mw_Good d_Jx35411_next_0502b D (4, [some (.ref i), none, none], [], M, c - 0, sl - 0) Qr Qx
  refine lr _ (5, [some (.ref i), none, none], [.ref i], M, c - 0, sl - 0) l_Jx35411_next_0502b_4 rfl ?_
  refine lr _ (8, [some (.ref i), none, none], [.int (Int32.ofInt (k : Int))], M, c - 0, sl - 0) l_Jx35411_next_0502b_5 (r_gf a1 a4 gc) ?_
  refine lr _ (9, [some (.ref i), some (.int (Int32.ofInt (k : Int))), none], [], M, c - 0, sl - 0) l_Jx35411_next_0502b_8 rfl ?_
  refine lr _ (10, [some (.ref i), some (.int (Int32.ofInt (k : Int))), none], [.int (Int32.ofInt (k : Int))], M, c - 0, sl - 0) l_Jx35411_next_0502b_9 rfl ?_
  refine lr _ (11, [some (.ref i), some (.int (Int32.ofInt (k : Int))), none], [.ref i, .int (Int32.ofInt (k : Int))], M, c - 0, sl - 0) l_Jx35411_next_0502b_10 rfl ?_
  refine lr _ (14, [some (.ref i), some (.int (Int32.ofInt (k : Int))), none], [.ref l, .int (Int32.ofInt (k : Int))], M, c - 0, sl - 0) l_Jx35411_next_0502b_11 (r_gf a1 a4 gl) ?_
  refine lr _ (17, [some (.ref i), some (.int (Int32.ofInt (k : Int))), none], [.int (Int32.ofInt (n : Int)), .int (Int32.ofInt (k : Int))], M, c - 0, sl - 0) l_Jx35411_next_0502b_14 (r_gf hL.2.1.1 hL.2.1.2.2 hL.sz) ?_
  refine lbT _ ((Int32.ofInt (k : Int)) < (Int32.ofInt (n : Int))) (28, [some (.ref i), some (.int (Int32.ofInt (k : Int))), none], [], M, c - 0, sl - 0) (20, [some (.ref i), some (.int (Int32.ofInt (k : Int))), none], [], M, c - 0, sl - 0) l_Jx35411_next_0502b_17 rfl (by
    rw [nw_lt ⟨by omega, by omega⟩ ⟨by omega, by omega⟩]
    omega) ?_
  refine lr _ (29, [some (.ref i), some (.int (Int32.ofInt (k : Int))), none], [.ref i], M, c - 0, sl - 0) l_Jx35411_next_0502b_28 rfl ?_
  refine lr _ (32, [some (.ref i), some (.int (Int32.ofInt (k : Int))), none], [.ref l], M, c - 0, sl - 0) l_Jx35411_next_0502b_29 (r_gf a1 a4 gl) ?_
  refine lr _ (35, [some (.ref i), some (.int (Int32.ofInt (k : Int))), none], [.ref e], M, c - 0, sl - 0) l_Jx35411_next_0502b_32 (r_gf hL.2.1.1 hL.2.1.2.2 ga) ?_
  refine lr _ (36, [some (.ref i), some (.int (Int32.ofInt (k : Int))), some (.ref e)], [], M, c - 0, sl - 0) l_Jx35411_next_0502b_35 rfl ?_
  refine lr _ (37, [some (.ref i), some (.int (Int32.ofInt (k : Int))), some (.ref e)], [.int (Int32.ofInt (k : Int))], M, c - 0, sl - 0) l_Jx35411_next_0502b_36 rfl ?_
  refine lr _ (38, [some (.ref i), some (.int (Int32.ofInt (k : Int))), some (.ref e)], [.ref e, .int (Int32.ofInt (k : Int))], M, c - 0, sl - 0) l_Jx35411_next_0502b_37 rfl ?_
  refine lr _ (39, [some (.ref i), some (.int (Int32.ofInt (k : Int))), some (.ref e)], [.int (Int32.ofNat 10), .int (Int32.ofInt (k : Int))], M, c - 0, sl - 0) l_Jx35411_next_0502b_38 (r_al e1 h6) ?_
  refine lbT _ ((Int32.ofInt (k : Int)) < (Int32.ofNat 10)) (50, [some (.ref i), some (.int (Int32.ofInt (k : Int))), some (.ref e)], [], M, c - 0, sl - 0) (42, [some (.ref i), some (.int (Int32.ofInt (k : Int))), some (.ref e)], [], M, c - 0, sl - 0) l_Jx35411_next_0502b_39 rfl (by
    rw [show Int32.ofNat 10 = Int32.ofInt 10 from rfl, nw_lt ⟨by omega, by omega⟩ ⟨by decide, by decide⟩]
    omega) ?_
  refine lr _ (51, [some (.ref i), some (.int (Int32.ofInt (k : Int))), some (.ref e)], [.ref i], M, c - 0, sl - 0) l_Jx35411_next_0502b_50 rfl ?_
  refine lr _ (52, [some (.ref i), some (.int (Int32.ofInt (k : Int))), some (.ref e)], [.int (Int32.ofInt (k : Int)), .ref i], M, c - 0, sl - 0) l_Jx35411_next_0502b_51 rfl ?_
  refine lr _ (53, [some (.ref i), some (.int (Int32.ofInt (k : Int))), some (.ref e)], [.int 1, .int (Int32.ofInt (k : Int)), .ref i], M, c - 0, sl - 0) l_Jx35411_next_0502b_52 rfl ?_
  refine lr _ (54, [some (.ref i), some (.int (Int32.ofInt (k : Int))), some (.ref e)], [.int ((Int32.ofInt (k : Int)) + 1), .ref i], M, c - 0, sl - 0) l_Jx35411_next_0502b_53 rfl ?_
  rw [ek]
  refine lr _ (57, [some (.ref i), some (.int (Int32.ofInt (k : Int))), some (.ref e)], [], (mw_sI M i 0 (Int32.ofInt ((k + 1 : Nat) : Int))), c - 0, sl - 0) l_Jx35411_next_0502b_54 (r_pfI a4) ?_
  refine lr _ (58, [some (.ref i), some (.int (Int32.ofInt (k : Int))), some (.ref e)], [.ref e], (mw_sI M i 0 (Int32.ofInt ((k + 1 : Nat) : Int))), c - 0, sl - 0) l_Jx35411_next_0502b_57 rfl ?_
  refine lr _ (59, [some (.ref i), some (.int (Int32.ofInt (k : Int))), some (.ref e)], [.ref i, .ref e], (mw_sI M i 0 (Int32.ofInt ((k + 1 : Nat) : Int))), c - 0, sl - 0) l_Jx35411_next_0502b_58 rfl ?_
  refine lr _ (60, [some (.ref i), some (.int (Int32.ofInt (k : Int))), some (.ref e)], [.int (Int32.ofInt (k : Int)), .ref i, .ref e], (mw_sI M i 0 (Int32.ofInt ((k + 1 : Nat) : Int))), c - 0, sl - 0) l_Jx35411_next_0502b_59 rfl ?_
  refine lr _ (61, [some (.ref i), some (.int (Int32.ofInt (k : Int))), some (.ref e)], [.int (Int32.ofInt (k : Int)), .ref i, .int (Int32.ofInt (k : Int)), .ref e], (mw_sI M i 0 (Int32.ofInt ((k + 1 : Nat) : Int))), c - 0, sl - 0) l_Jx35411_next_0502b_60 rfl ?_
  refine lr _ (64, [some (.ref i), some (.int (Int32.ofInt (k : Int))), some (.ref e)], [.int (Int32.ofInt (k : Int)), .ref e], (mw_sI (mw_sI M i 0 (Int32.ofInt ((k + 1 : Nat) : Int))) i 1 (Int32.ofInt (k : Int))), c - 0, sl - 0) l_Jx35411_next_0502b_61 (r_pfI a4) ?_
  refine ld _ (vp_in (Int32.ofInt (k : Int)) 10) (65, [some (.ref i), some (.int (Int32.ofInt (k : Int))), some (.ref e)], [.ref (1000628 + (f k).toNat)], (mw_sI (mw_sI M i 0 (Int32.ofInt ((k + 1 : Nat) : Int))) i 1 (Int32.ofInt (k : Int))), c - 0, sl - 0) l_Jx35411_next_0502b_64 (r_aal (x := 1000628 + (f k).toNat) h6 (by rw [cl]; exact h7 k hk)) (nw_vpin ⟨by omega, by omega⟩ ⟨by omega, by omega⟩) ?_
  have Q : ∀ x, ¬ x = i → hq M (mw_sI (mw_sI M i 0 (Int32.ofInt ((k + 1 : Nat) : Int))) i 1 (Int32.ofInt (k : Int))) x := fun x hx => (hq_sI hx).trans (hq_sI hx)
  have li : ¬ l = i := by omega
  refine lt_ret _ (some (.ref (1000628 + (f k).toNat))) l_Jx35411_next_0502b_65 rfl (h _ ⟨hL.1, hL.2.1, ⟨(congrFun (Q l li).1 0).trans hL.2.2.1.1, (congrFun (Q l li).1 2).trans hL.2.2.1.2⟩, hL.2.2.2⟩ ⟨⟨a1, a2, a3, a4⟩, ⟨?_, ?_⟩, h3⟩ Q rfl (fun _ _ h => h))
  · show mw_u _ i 1 _ i 0 = _
    unfold mw_u
    rw [if_pos rfl, if_neg (by decide)]
    show mw_u _ i 0 _ i 0 = _
    unfold mw_u
    rw [if_pos rfl, if_pos rfl]
  · show mw_u _ i 1 _ i 2 = _
    unfold mw_u
    rw [if_pos rfl, if_neg (by decide)]
    show mw_u _ i 0 _ i 2 = _
    unfold mw_u
    rw [if_pos rfl, if_neg (by decide)]
    exact b2
theorem r_gI {a i len : Nat} {ps : List Nat} {y : MethodName} {k : Int32} {rt : Option FieldType} {v : Int} (hv : 0 ≤ v ∧ v < 128) (ha : a = 1000628 + v.toNat) (hk : M.2.2.2.2.1 a = none) : mw_ins sc rt (.getfield i, len, (18, 0, 0), ps, y, k) pc ls (.ref a :: st) M c sl = some (.inl (pc + 3, ls, .int (Int32.ofInt v) :: st, M, c, sl)) := by
  have n1 : ¬ (1000001 ≤ a ∧ a < 1000031) := by omega
  have n2 : 1000500 ≤ a ∧ a < 1000756 := by omega
  have n3 : a - 1000500 = 128 + v.toNat := by omega
  unfold mw_ins
  dsimp only
  rw [if_neg n1, hk]
  dsimp only
  rw [if_pos ⟨n2, rfl, rfl⟩, n3]
  have e : Int32.ofNat (128 + v.toNat) - 128 = Int32.ofInt v := by
    have e1 : Int32.ofNat (128 + v.toNat) = Int32.ofInt (v + 128) := by
      show Int32.ofInt ((128 + v.toNat : Nat) : Int) = _
      rw [show ((128 + v.toNat : Nat) : Int) = v + 128 by omega]
    rw [e1, show (128 : Int32) = Int32.ofInt 128 from rfl, ← Int32.ofInt_sub, show v + 128 - 128 = v by omega]
  rw [e]
  rfl
theorem t_intV {v : Int} (hv : 0 ≤ v ∧ v < 128) (hkn : ∀ x, 1000000 ≤ x → M.2.2.2.2.1 x = none) (h : Qr (some (.int (Int32.ofInt v))) M) : mw_Wp sc mw_Good d_J6_intValue_8abf5 D (0, [some (.ref (1000628 + v.toNat))], [], M, c, sl) Qr Qx := by
  refine lr _ (1, [some (.ref (1000628 + v.toNat))], [.ref (1000628 + v.toNat)], M, c, sl) l_J6_intValue_8abf5_0 rfl ?_
  refine lr _ (4, [some (.ref (1000628 + v.toNat))], [.int (Int32.ofInt v)], M, c, sl) l_J6_intValue_8abf5_1 (r_gI hv rfl (hkn _ (by omega))) ?_
  exact lt_ret _ (some (.int (Int32.ofInt v))) l_J6_intValue_8abf5_4 rfl h
end
