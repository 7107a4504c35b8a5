/-! at; texts; put -/
section
variable {sc : Nat × (Nat → Int32)} {D c sl : Nat} {M : mw_Mem} {Qr : Option Value → mw_Mem → Prop} {Qx : Nat → mw_Mem → Prop}
def s_at (sc : Nat × (Nat → Int32)) (k : Nat) : Int32 := if k < sc.1 then sc.2 k else 0
theorem t_at {k : Nat} (hk : k < 1000) (hs : sc.1 ≤ 1000) (h : Qr (some (.int (s_at sc k))) M) : mw_Wp sc mw_Good d_L_at D (0, [some (.ref 1000000), some (.int (Int32.ofInt k))], [], M, c, sl) Qr Qx := by
  refine lr _ (1, [some (.ref 1000000), some (.int (Int32.ofInt k))], [.int (Int32.ofInt k)], M, c, sl) l_L_at_0 rfl ?_
  refine lr _ (2, [some (.ref 1000000), some (.int (Int32.ofInt k))], [.ref 1000000, .int (Int32.ofInt k)], M, c, sl) l_L_at_1 rfl ?_
  refine lr _ (3, [some (.ref 1000000), some (.int (Int32.ofInt k))], [.int (Int32.ofNat sc.1), .int (Int32.ofInt k)], M, c, sl) l_L_at_2 rfl ?_
  have e1 : Int32.ofNat sc.1 = Int32.ofInt sc.1 := rfl
  refine lb _ ((Int32.ofNat sc.1) ≤ (Int32.ofInt k)) (12, [some (.ref 1000000), some (.int (Int32.ofInt k))], [], M, c, sl) (6, [some (.ref 1000000), some (.int (Int32.ofInt k))], [], M, c, sl) l_L_at_3 rfl (fun q => ?_) (fun q => ?_)
  · unfold s_at at h
    rw [if_neg (fun z => by
      rw [e1, nw_le ⟨by omega, by omega⟩ ⟨by omega, by omega⟩] at q
      omega)] at h
    refine lr _ (13, [some (.ref 1000000), some (.int (Int32.ofInt k))], [.int 0], M, c, sl) l_L_at_12 rfl ?_
    exact lt_ret _ (some (.int 0)) l_L_at_13 rfl h
  · have kl : k < sc.1 := by
      rw [e1, nw_le ⟨by omega, by omega⟩ ⟨by omega, by omega⟩] at q
      omega
    unfold s_at at h
    rw [if_pos kl] at h
    refine lr _ (7, [some (.ref 1000000), some (.int (Int32.ofInt k))], [.ref 1000000], M, c, sl) l_L_at_6 rfl ?_
    refine lr _ (8, [some (.ref 1000000), some (.int (Int32.ofInt k))], [.int (Int32.ofInt k), .ref 1000000], M, c, sl) l_L_at_7 rfl ?_
    refine ld _ (vp_in (Int32.ofInt k) sc.1) (9, [some (.ref 1000000), some (.int (Int32.ofInt k))], [.int (sc.2 (Int32.ofInt k).toNatClampNeg)], M, c, sl) l_L_at_8 rfl (nw_vpin ⟨by omega, by omega⟩ ⟨by omega, by omega⟩) ?_
    rw [show (Int32.ofInt k).toNatClampNeg = k by rw [nw_cl ⟨by omega, by omega⟩]; omega]
    refine lr _ (13, [some (.ref 1000000), some (.int (Int32.ofInt k))], [.int (sc.2 k)], M, c, sl) l_L_at_9 rfl ?_
    exact lt_ret _ (some (.int (sc.2 k))) l_L_at_13 rfl h
/-- a text of n letters f stands at a -/
def Str (M : mw_Mem) (a n : Nat) (f : Nat → Int) : Prop := n ≤ 100 ∧ (∀ k, k < n → 0 ≤ f k ∧ f k < 128) ∧ ((1000001 ≤ a ∧ a < 1000031 ∧ mw_ol (a + 100) = n ∧ ∀ k, k < n → mw_ob (a + 100) k = Int32.ofInt (f k)) ∨ ∃ e m, (a < 1000000 ∧ e < 1000000) ∧ M.2.2.2.2.1 a = some (0, m) ∧ M.2.2.2.1 a 0 = some e ∧ M.1 a 1 = 0 ∧ M.2.2.2.2.1 e = some (24, n) ∧ ∀ k, k < n → M.1 e k = Int32.ofInt (f k))
theorem n_1 {a : Nat} (h : 1000001 ≤ a ∧ a < 1000031) : ¬ a + 100 = 1000000 ∧ a + 100 < 2000000 := by omega
theorem n_2 {a : Nat} (h : a < 1000000) : ¬ (1000001 ≤ a ∧ a < 1000031) ∧ ¬ a = 1000000 ∧ a < 2000000 := by omega
theorem Str.acc {a n : Nat} {f : Nat → Int} (h : Str M a n f) : ∃ e, (∀ rt (i len : Nat) ps y k pc ls st c sl, mw_ins sc rt (.getfield i, len, (0, 0, 2), ps, y, k) pc ls (.ref a :: st) M c sl = some (.inl (pc + 3, ls, .ref e :: st, M, c, sl))) ∧ (∀ rt (i len : Nat) ps y k pc ls st c sl, mw_ins sc rt (.getfield i, len, (0, 1, 3), ps, y, k) pc ls (.ref a :: st) M c sl = some (.inl (pc + 3, ls, .int 0 :: st, M, c, sl))) ∧ (∀ rt (len : Nat) z ps y k pc ls st c sl, mw_ins sc rt (.arraylength, len, z, ps, y, k) pc ls (.ref e :: st) M c sl = some (.inl (pc + 1, ls, .int (Int32.ofNat n) :: st, M, c, sl))) ∧ (∀ rt (len : Nat) z ps y kk pc ls st c sl (k : Nat), k < n → mw_ins sc rt (.baload, len, z, ps, y, kk) pc ls (.int (Int32.ofInt k) :: .ref e :: st) M c sl = some (.inr (.inr (.inl (vp_in (Int32.ofInt k) n, (pc + 1, ls, .int (Int32.ofInt (f k)) :: st, M, c, sl)))))) ∧ (((∃ m, M.2.2.2.2.1 a = some (0, m)) ∨ (1000001 ≤ a ∧ a < 1000031)) ∧ e < 2000000) := by
  obtain ⟨n100, hf, h⟩ := h
  have cl : ∀ k : Nat, k < n → (Int32.ofInt (k : Int)).toNatClampNeg = k := fun k hk => by
    rw [nw_cl ⟨by omega, by omega⟩]
    omega
  rcases h with ⟨a0, a1, hl, hb⟩ | ⟨e, m, ⟨a1, e1⟩, ka, re, ci, ke, hb⟩
  · have oa : mw_oa (a + 100) = true := by
      unfold mw_oa
      simp only [Bool.or_eq_true, Bool.and_eq_true, decide_eq_true_eq]
      exact Or.inl (by omega)
    refine ⟨a + 100, fun rt i len ps y k pc ls st c sl => ?_, fun rt i len ps y k pc ls st c sl => ?_, fun rt len z ps y k pc ls st c sl => ?_, fun rt len z ps y kk pc ls st c sl k hk => ?_, Or.inr ⟨a0, a1⟩, (n_1 ⟨a0, a1⟩).2⟩
    · unfold mw_ins
      dsimp only
      rw [if_pos ⟨a0, a1⟩]
      rfl
    · unfold mw_ins
      dsimp only
      rw [if_pos ⟨a0, a1⟩]
      rfl
    · unfold mw_ins
      dsimp only
      rw [if_neg (n_1 ⟨a0, a1⟩).1, if_pos oa, hl]
      rfl
    · unfold mw_ins
      dsimp only
      rw [if_pos oa, hl, cl k hk, hb k hk]
      rfl
  · have oa : ¬ mw_oa e = true := by
      unfold mw_oa
      simp only [Bool.or_eq_true, Bool.and_eq_true, decide_eq_true_eq]
      omega
    refine ⟨e, fun rt i len ps y k pc ls st c sl => ?_, fun rt i len ps y k pc ls st c sl => ?_, fun rt len z ps y k pc ls st c sl => ?_, fun rt len z ps y kk pc ls st c sl k hk => ?_, Or.inl ⟨m, ka⟩, (n_2 e1).2.2⟩
    · unfold mw_ins
      dsimp only
      rw [if_neg (n_2 a1).1, ka]
      show mw_nx (pc + 3) ls (mw_rv (M.2.2.2.1 a 0) :: st) M c sl = _
      rw [re]
      rfl
    · unfold mw_ins
      dsimp only
      rw [if_neg (n_2 a1).1, ka]
      show mw_nx (pc + 3) ls (.int (M.1 a 1) :: st) M c sl = _
      rw [ci]
      rfl
    · unfold mw_ins
      dsimp only
      rw [if_neg (n_2 e1).2.1, if_neg oa, ke]
      rfl
    · unfold mw_ins
      dsimp only
      rw [if_neg oa, ke]
      show mw_nd (vp_in (Int32.ofInt k) n) (pc + 1) ls (.int (M.1 e (Int32.ofInt (k : Int)).toNatClampNeg) :: st) M c sl = _
      rw [cl k hk, hb k hk]
      rfl
theorem Str.mono {M' : mw_Mem} {a n : Nat} {f : Nat → Int} (h : Str M a n f) (e : ∀ x, x < 1000000 → (∃ q, M.2.2.2.2.1 x = some q ∧ (q.1 = 0 ∨ q.1 = 24)) → hq M M' x) : Str M' a n f := by
  obtain ⟨n100, hf, h⟩ := h
  refine ⟨n100, hf, ?_⟩
  rcases h with h | ⟨e9, m, ⟨a1, e1⟩, ka, re, ci, ke, hb⟩
  · exact Or.inl h
  · have x := e a a1 ⟨_, ka, Or.inl rfl⟩
    have y := e e9 e1 ⟨_, ke, Or.inr rfl⟩
    exact Or.inr ⟨e9, m, ⟨a1, e1⟩, x.2.2.2.2.trans ka, (congrFun x.2.2.2.1 0).trans re, (congrFun x.1 1).trans ci, y.2.2.2.2.trans ke, fun k hk => (congrFun y.1 k).trans (hb k hk)⟩
theorem t_isl {a n : Nat} {f : Nat → Int} (hS : Str M a n f) (h : Qr (some (.int 1)) M) : mw_Wp sc mw_Good d_J0_isLatin1_aae02 D (0, [some (.ref a)], [], M, c, sl) Qr Qx := by
  obtain ⟨e, g0, g1, al, ba, hrc, he⟩ := hS.acc (sc := sc)
  refine lr _ (3, [some (.ref a)], [.int 1], M, c, sl) l_J0_isLatin1_aae02_0 rfl ?_
  refine lbF _ (1 = 0) (17, [some (.ref a)], [], M, c, sl) (6, [some (.ref a)], [], M, c, sl) l_J0_isLatin1_aae02_3 rfl (by decide) ?_
  refine lr _ (7, [some (.ref a)], [.ref a], M, c, sl) l_J0_isLatin1_aae02_6 rfl ?_
  refine lr _ (10, [some (.ref a)], [.int 0], M, c, sl) l_J0_isLatin1_aae02_7 (g1 _ _ _ _ _ _ _ _ _ _ _) ?_
  refine lbF _ (¬ 0 = 0) (17, [some (.ref a)], [], M, c, sl) (13, [some (.ref a)], [], M, c, sl) l_J0_isLatin1_aae02_10 rfl (by decide) ?_
  refine lr _ (14, [some (.ref a)], [.int 1], M, c, sl) l_J0_isLatin1_aae02_13 rfl ?_
  refine lr _ (18, [some (.ref a)], [.int 1], M, c, sl) l_J0_isLatin1_aae02_14 rfl ?_
  exact lt_retP _ _ (some (.int 1)) l_J0_isLatin1_aae02_18 rfl ⟨_, rfl, by decide⟩ h
theorem t_cod {a n : Nat} {f : Nat → Int} (hS : Str M a n f) (h : Qr (some (.int 0)) M) : mw_Wp sc mw_Good d_J0_coder_7d493 D (0, [some (.ref a)], [], M, c, sl) Qr Qx := by
  obtain ⟨e, g0, g1, al, ba, hrc, he⟩ := hS.acc (sc := sc)
  refine lr _ (3, [some (.ref a)], [.int 1], M, c, sl) l_J0_coder_7d493_0 rfl ?_
  refine lbF _ (1 = 0) (13, [some (.ref a)], [], M, c, sl) (6, [some (.ref a)], [], M, c, sl) l_J0_coder_7d493_3 rfl (by decide) ?_
  refine lr _ (7, [some (.ref a)], [.ref a], M, c, sl) l_J0_coder_7d493_6 rfl ?_
  refine lr _ (10, [some (.ref a)], [.int 0], M, c, sl) l_J0_coder_7d493_7 (g1 _ _ _ _ _ _ _ _ _ _ _) ?_
  refine lr _ (14, [some (.ref a)], [.int 0], M, c, sl) l_J0_coder_7d493_10 rfl ?_
  exact lt_retP _ _ (some (.int 0)) l_J0_coder_7d493_14 rfl ⟨_, rfl, by decide⟩ h
theorem t_len {a n : Nat} {f : Nat → Int} (hS : Str M a n f) (hD : 2 ≤ D) (h : Qr (some (.int (Int32.ofNat n))) M) : mw_Wp sc mw_Good d_J0_length_8abf5 D (0, [some (.ref a)], [], M, c, sl) Qr Qx := by
  obtain ⟨e, g0, g1, al, ba, hrc, he⟩ := hS.acc (sc := sc)
  refine lr _ (1, [some (.ref a)], [.ref a], M, c, sl) l_J0_length_8abf5_0 rfl ?_
  refine lr _ (4, [some (.ref a)], [.ref e], M, c, sl) l_J0_length_8abf5_1 (g0 _ _ _ _ _ _ _ _ _ _ _) ?_
  refine lr _ (5, [some (.ref a)], [.int (Int32.ofNat n)], M, c, sl) l_J0_length_8abf5_4 (al _ _ _ _ _ _ _ _ _ _ _) ?_
  refine lr _ (6, [some (.ref a)], [.ref a, .int (Int32.ofNat n)], M, c, sl) l_J0_length_8abf5_5 rfl ?_
  refine mw_Wp.cal _ d_J0_coder_7d493 0 0 0 l_J0_length_8abf5_6 rfl rfl g_J0_coder_7d493 (by omega) (Nat.zero_le _) (Nat.zero_le _) (hrc.elim (fun h => Or.inl (h.elim (fun m9 k9 => ⟨_, m9, rfl, k9⟩))) (fun h => Or.inr (Or.inl ⟨rfl, _, rfl, h⟩))) ?_
  refine t_cod hS ?_
  show mw_Wp sc mw_Good d_J0_length_8abf5 D (9, [some (.ref a)], [.int 0, .int (Int32.ofNat n)], M, c - 0, sl - 0) Qr Qx
  have e0 : (Int32.ofNat n) >>> ((0 : Int32) &&& 31) = Int32.ofNat n := by
    rw [show (0 : Int32) &&& 31 = 0 by decide]
    exact Int32.shiftRight_zero
  refine lr _ (10, [some (.ref a)], [.int ((Int32.ofNat n) >>> ((0 : Int32) &&& 31))], M, c - 0, sl - 0) l_J0_length_8abf5_9 rfl ?_
  rw [e0]
  exact lt_ret _ (some (.int (Int32.ofNat n))) l_J0_length_8abf5_10 rfl h
theorem t_ci3 {k n : Nat} (hk : k < n) (hn : n ≤ 100) {v : Value} (h : Qr (some (.int (Int32.ofInt k))) M) : mw_Wp sc mw_Good d_J3_checkIndex_8e157 D (0, [some (.int (Int32.ofInt k)), some (.int (Int32.ofNat n)), some v], [], M, c, sl) Qr Qx := by
  have e1 : Int32.ofNat n = Int32.ofInt n := rfl
  refine lr _ (1, [some (.int (Int32.ofInt k)), some (.int (Int32.ofNat n)), some (v)], [.int (Int32.ofInt k)], M, c, sl) l_J3_checkIndex_8e157_0 rfl ?_
  refine lbF _ ((Int32.ofInt k) < 0) (9, [some (.int (Int32.ofInt k)), some (.int (Int32.ofNat n)), some (v)], [], M, c, sl) (4, [some (.int (Int32.ofInt k)), some (.int (Int32.ofNat n)), some (v)], [], M, c, sl) l_J3_checkIndex_8e157_1 rfl (fun z => by
    have z : Int32.ofInt k < Int32.ofInt 0 := z
    rw [nw_lt ⟨by omega, by omega⟩ ⟨by decide, by decide⟩] at z
    omega) ?_
  refine lr _ (5, [some (.int (Int32.ofInt k)), some (.int (Int32.ofNat n)), some (v)], [.int (Int32.ofInt k)], M, c, sl) l_J3_checkIndex_8e157_4 rfl ?_
  refine lr _ (6, [some (.int (Int32.ofInt k)), some (.int (Int32.ofNat n)), some (v)], [.int (Int32.ofNat n), .int (Int32.ofInt k)], M, c, sl) l_J3_checkIndex_8e157_5 rfl ?_
  refine lbT _ ((Int32.ofInt k) < (Int32.ofNat n)) (16, [some (.int (Int32.ofInt k)), some (.int (Int32.ofNat n)), some (v)], [], M, c, sl) (9, [some (.int (Int32.ofInt k)), some (.int (Int32.ofNat n)), some (v)], [], M, c, sl) l_J3_checkIndex_8e157_6 rfl (by
    rw [e1, nw_lt ⟨by omega, by omega⟩ ⟨by omega, by omega⟩]
    omega) ?_
  refine lr _ (17, [some (.int (Int32.ofInt k)), some (.int (Int32.ofNat n)), some (v)], [.int (Int32.ofInt k)], M, c, sl) l_J3_checkIndex_8e157_16 rfl ?_
  exact lt_ret _ (some (.int (Int32.ofInt k))) l_J3_checkIndex_8e157_17 rfl h
theorem t_ci0 {k n : Nat} (hk : k < n) (hn : n ≤ 100) (hD : 1 ≤ D) (h : Qr none M) : mw_Wp sc mw_Good d_J0_checkIndex_df160 D (0, [some (.int (Int32.ofInt k)), some (.int (Int32.ofNat n))], [], M, c, sl) Qr Qx := by
  refine lr _ (1, [some (.int (Int32.ofInt k)), some (.int (Int32.ofNat n))], [.int (Int32.ofInt k)], M, c, sl) l_J0_checkIndex_df160_0 rfl ?_
  refine lr _ (2, [some (.int (Int32.ofInt k)), some (.int (Int32.ofNat n))], [.int (Int32.ofNat n), .int (Int32.ofInt k)], M, c, sl) l_J0_checkIndex_df160_1 rfl ?_
  refine lr _ (5, [some (.int (Int32.ofInt k)), some (.int (Int32.ofNat n))], [.retAddr 0, .int (Int32.ofNat n), .int (Int32.ofInt k)], M, c, sl) l_J0_checkIndex_df160_2 rfl ?_
  refine mw_Wp.cal _ d_J3_checkIndex_8e157 0 0 0 l_J0_checkIndex_df160_5 rfl rfl g_J3_checkIndex_8e157 (by omega) (Nat.zero_le _) (Nat.zero_le _) True.intro ?_
  refine t_ci3 hk hn ?_
  show mw_Wp sc mw_Good d_J0_checkIndex_df160 D (8, [some (.int (Int32.ofInt k)), some (.int (Int32.ofNat n))], [.int (Int32.ofInt k)], M, c - 0, sl - 0) Qr Qx
  refine lr _ (9, [some (.int (Int32.ofInt k)), some (.int (Int32.ofNat n))], [], M, c - 0, sl - 0) l_J0_checkIndex_df160_8 rfl ?_
  exact lt_ret _ none l_J0_checkIndex_df160_9 rfl h
theorem t_nch {x : Int} (h : 0 ≤ x ∧ x < 128) : ∃ ty : FieldType, some FieldType.char = some ty ∧ narrow ty (.int (Int32.ofInt x)) = .int (Int32.ofInt x) := by
  have hall : ∀ x : Nat, x < 128 → narrow FieldType.char (.int (Int32.ofInt (x : Int))) = .int (Int32.ofInt (x : Int)) := by decide +kernel
  have := hall x.toNat (by omega)
  rw [show (x.toNat : Int) = x by omega] at this
  exact ⟨_, rfl, this⟩
theorem t_ch1 {a n k : Nat} {f : Nat → Int} (hS : Str M a n f) {e : Nat} (al : ∀ rt (len : Nat) z ps y k pc ls st c sl, mw_ins sc rt (.arraylength, len, z, ps, y, k) pc ls (.ref e :: st) M c sl = some (.inl (pc + 1, ls, .int (Int32.ofNat n) :: st, M, c, sl))) (ba : ∀ rt (len : Nat) z ps y kk pc ls st c sl (k : Nat), k < n → mw_ins sc rt (.baload, len, z, ps, y, kk) pc ls (.int (Int32.ofInt k) :: .ref e :: st) M c sl = some (.inr (.inr (.inl (vp_in (Int32.ofInt k) n, (pc + 1, ls, .int (Int32.ofInt (f k)) :: st, M, c, sl)))))) (hk : k < n) (hD : 2 ≤ D) (h : Qr (some (.int (Int32.ofInt (f k)))) M) : mw_Wp sc mw_Good d_J1_charAt_3b067 D (0, [some (.ref e), some (.int (Int32.ofInt k))], [], M, c, sl) Qr Qx := by
  have n100 := hS.1
  have fk := hS.2.1 k hk
  refine lr _ (1, [some (.ref e), some (.int (Int32.ofInt k))], [.int (Int32.ofInt k)], M, c, sl) l_J1_charAt_3b067_0 rfl ?_
  refine lr _ (2, [some (.ref e), some (.int (Int32.ofInt k))], [.ref e, .int (Int32.ofInt k)], M, c, sl) l_J1_charAt_3b067_1 rfl ?_
  refine lr _ (3, [some (.ref e), some (.int (Int32.ofInt k))], [.int (Int32.ofNat n), .int (Int32.ofInt k)], M, c, sl) l_J1_charAt_3b067_2 (al _ _ _ _ _ _ _ _ _ _ _) ?_
  refine mw_Wp.cal _ d_J0_checkIndex_df160 1 0 0 l_J1_charAt_3b067_3 rfl rfl g_J0_checkIndex_df160 (by omega) (Nat.zero_le _) (Nat.zero_le _) True.intro ?_
  refine t_ci0 hk n100 (by decide) ?_
  show mw_Wp sc mw_Good d_J1_charAt_3b067 D (6, [some (.ref e), some (.int (Int32.ofInt k))], [], M, c - 0, sl - 0) Qr Qx
  refine lr _ (7, [some (.ref e), some (.int (Int32.ofInt k))], [.ref e], M, c - 0, sl - 0) l_J1_charAt_3b067_6 rfl ?_
  refine lr _ (8, [some (.ref e), some (.int (Int32.ofInt k))], [.int (Int32.ofInt k), .ref e], M, c - 0, sl - 0) l_J1_charAt_3b067_7 rfl ?_
  refine ld _ (vp_in (Int32.ofInt k) n) (9, [some (.ref e), some (.int (Int32.ofInt k))], [.int (Int32.ofInt (f k))], M, c - 0, sl - 0) l_J1_charAt_3b067_8 (ba _ _ _ _ _ _ _ _ _ _ _ k hk) (nw_vpin ⟨by omega, by omega⟩ ⟨by omega, by omega⟩) ?_
  refine lr _ (12, [some (.ref e), some (.int (Int32.ofInt k))], [.int 255, .int (Int32.ofInt (f k))], M, c - 0, sl - 0) l_J1_charAt_3b067_9 rfl ?_
  refine lr _ (13, [some (.ref e), some (.int (Int32.ofInt k))], [.int ((Int32.ofInt (f k)) &&& 255)], M, c - 0, sl - 0) l_J1_charAt_3b067_12 rfl ?_
  have e9 : (((Int32.ofInt (f k)) &&& 255).toUInt32 % 65536).toInt32 = Int32.ofInt (f k) := by
    have hall : ∀ x : Nat, x < 128 → (((Int32.ofInt (x : Int)) &&& 255).toUInt32 % 65536).toInt32 = Int32.ofInt (x : Int) := by decide +kernel
    have := hall (f k).toNat (by omega)
    rwa [show ((f k).toNat : Int) = f k by omega] at this
  refine lr _ (14, [some (.ref e), some (.int (Int32.ofInt k))], [.int ((((Int32.ofInt (f k)) &&& 255).toUInt32 % 65536).toInt32)], M, c - 0, sl - 0) l_J1_charAt_3b067_13 rfl ?_
  rw [e9]
  exact lt_retP _ _ (some (.int (Int32.ofInt (f k)))) l_J1_charAt_3b067_14 rfl (t_nch (by omega)) h
theorem t_chr {a n k : Nat} {f : Nat → Int} (hS : Str M a n f) (hk : k < n) (hD : 3 ≤ D) (h : Qr (some (.int (Int32.ofInt (f k)))) M) : mw_Wp sc mw_Good d_J0_charAt_5068e D (0, [some (.ref a), some (.int (Int32.ofInt k))], [], M, c, sl) Qr Qx := by
  obtain ⟨e, g0, g1, al, ba, hrc, he⟩ := hS.acc (sc := sc)
  have fk := hS.2.1 k hk
  refine lr _ (1, [some (.ref a), some (.int (Int32.ofInt k))], [.ref a], M, c, sl) l_J0_charAt_5068e_0 rfl ?_
  refine mw_Wp.cal _ d_J0_isLatin1_aae02 0 0 0 l_J0_charAt_5068e_1 rfl rfl g_J0_isLatin1_aae02 (by omega) (Nat.zero_le _) (Nat.zero_le _) (hrc.elim (fun h => Or.inl (h.elim (fun m9 k9 => ⟨_, m9, rfl, k9⟩))) (fun h => Or.inr (Or.inl ⟨rfl, _, rfl, h⟩))) ?_
  refine t_isl hS ?_
  show mw_Wp sc mw_Good d_J0_charAt_5068e D (4, [some (.ref a), some (.int (Int32.ofInt k))], [.int 1], M, c - 0, sl - 0) Qr Qx
  refine lbF _ (1 = 0) (16, [some (.ref a), some (.int (Int32.ofInt k))], [], M, c - 0, sl - 0) (7, [some (.ref a), some (.int (Int32.ofInt k))], [], M, c - 0, sl - 0) l_J0_charAt_5068e_4 rfl (by decide) ?_
  refine lr _ (8, [some (.ref a), some (.int (Int32.ofInt k))], [.ref a], M, c - 0, sl - 0) l_J0_charAt_5068e_7 rfl ?_
  refine lr _ (11, [some (.ref a), some (.int (Int32.ofInt k))], [.ref e], M, c - 0, sl - 0) l_J0_charAt_5068e_8 (g0 _ _ _ _ _ _ _ _ _ _ _) ?_
  refine lr _ (12, [some (.ref a), some (.int (Int32.ofInt k))], [.int (Int32.ofInt k), .ref e], M, c - 0, sl - 0) l_J0_charAt_5068e_11 rfl ?_
  refine mw_Wp.cal _ d_J1_charAt_3b067 2 0 0 l_J0_charAt_5068e_12 rfl rfl g_J1_charAt_3b067 (by omega) (Nat.zero_le _) (Nat.zero_le _) True.intro ?_
  refine t_ch1 hS al ba hk (by decide) ?_
  show mw_Wp sc mw_Good d_J0_charAt_5068e D (15, [some (.ref a), some (.int (Int32.ofInt k))], [.int (Int32.ofInt (f k))], M, c - 0 - 0, sl - 0 - 0) Qr Qx
  exact lt_retP _ _ (some (.int (Int32.ofInt (f k)))) l_J0_charAt_5068e_15 rfl (t_nch fk) h
/-- n letters f behind the text -/
def tx_put (q : Int × (Int → Int)) (f : Nat → Int) (n : Nat) : Int × (Int → Int) := (q.1 + n, fun s => if q.1 ≤ s ∧ s < q.1 + n then f (s - q.1).toNat else q.2 s)
theorem tx_put_0 {q : Int × (Int → Int)} {f : Nat → Int} : tx_put q f 0 = q := by
  unfold tx_put
  refine Prod.ext (Int.add_zero _) ?_
  funext s
  exact if_neg (by omega)
theorem tx_put_s {q : Int × (Int → Int)} {f : Nat → Int} {n : Nat} : ((tx_put q f n).1 + 1, sp_set (tx_put q f n).2 (tx_put q f n).1 (f n)) = tx_put q f (n + 1) := by
  unfold tx_put sp_set
  refine Prod.ext ?_ ?_
  · show q.1 + (n : Int) + 1 = q.1 + ((n + 1 : Nat) : Int)
    omega
  · funext s
    show (if s = q.1 + (n : Int) then f n else if q.1 ≤ s ∧ s < q.1 + (n : Int) then f (s - q.1).toNat else q.2 s) = (if q.1 ≤ s ∧ s < q.1 + ((n + 1 : Nat) : Int) then f (s - q.1).toNat else q.2 s)
    by_cases z : s = q.1 + n
    · rw [if_pos z, if_pos (by omega), show (s - q.1).toNat = n by omega]
    · rw [if_neg z]
      by_cases y : q.1 ≤ s ∧ s < q.1 + n
      · rw [if_pos y, if_pos (by omega)]
      · rw [if_neg y, if_neg (by omega)]
theorem t_put {a n b sb : Nat} {f : Nat → Int} {w : of_S} {B : Int} (hO : Off b sb M w B) (hB : B ≤ 4000000) (h0 : 0 ≤ w.2.2.1.1) (hn : w.2.2.1.1 + n ≤ 60) (hf : ∀ k, k < n → 32 ≤ f k ∧ f k ≤ 126) (hS : ∀ M', Fr b sb M M' → Str M' a n f) (K : ∀ M', Off b sb M' (of_T w (tx_put w.2.2.1 f n)) B → Fr b sb M M' → Qr none M') : mw_Wp sc mw_Good d_L_put 23 (0, [some (.ref b), some (.ref a), none], [], M, 240, 1440) Qr Qx := by
  refine lr _ (1, [some (.ref b), some (.ref a), none], [.int 0], M, 240, 1440) l_L_put_0 rfl ?_
  refine lr _ (2, [some (.ref b), some (.ref a), some (.int 0)], [], M, 240, 1440) l_L_put_1 rfl ?_
  have n60 : n ≤ 60 := by omega
  have e1 : Int32.ofNat n = Int32.ofInt n := rfl
  have lp : ∀ (r k : Nat) (M1 : mw_Mem) (c9 s9 : Nat), k ≤ n → n - k = r → 4 * r ≤ c9 → 24 * r ≤ s9 → Off b sb M1 (of_T w (tx_put w.2.2.1 f k)) B → Fr b sb M M1 → mw_Wp sc mw_Good d_L_put 23 (2, [some (.ref b), some (.ref a), some (.int (Int32.ofInt (k : Int)))], [], M1, c9, s9) Qr Qx := by
    intro r
    induction r with
    | zero =>
      intro k M1 c9 s9 hk hr hc hs O1 F1
      have ek : k = n := by omega
      subst ek
      show mw_Wp sc mw_Good d_L_put 23 (2, [some (.ref b), some (.ref a), some (.int (Int32.ofInt (k : Int)))], [], M1, c9, s9) Qr Qx
      refine lr _ (3, [some (.ref b), some (.ref a), some (.int (Int32.ofInt (k : Int)))], [.int (Int32.ofInt (k : Int))], M1, c9, s9) l_L_put_2 rfl ?_
      refine lr _ (4, [some (.ref b), some (.ref a), some (.int (Int32.ofInt (k : Int)))], [.ref a, .int (Int32.ofInt (k : Int))], M1, c9, s9) l_L_put_3 rfl ?_
      have hS1 := hS M1 F1
      obtain ⟨e, g0, g1, al, ba, hrc, he⟩ := hS1.acc (sc := sc)
      refine mw_Wp.cal _ d_J0_length_8abf5 2 0 0 l_L_put_4 rfl rfl g_J0_length_8abf5 (by omega) (Nat.zero_le _) (Nat.zero_le _) (hrc.elim (fun h => Or.inl (h.elim (fun m9 k9 => ⟨_, m9, rfl, k9⟩))) (fun h => Or.inr (Or.inl ⟨rfl, _, rfl, h⟩))) ?_
      refine t_len hS1 (by decide) ?_
      show mw_Wp sc mw_Good d_L_put 23 (7, [some (.ref b), some (.ref a), some (.int (Int32.ofInt (k : Int)))], [.int (Int32.ofNat k), .int (Int32.ofInt (k : Int))], M1, c9 - 0, s9 - 0) Qr Qx
      refine lbT _ ((Int32.ofNat k) ≤ (Int32.ofInt (k : Int))) (26, [some (.ref b), some (.ref a), some (.int (Int32.ofInt (k : Int)))], [], M1, c9 - 0, s9 - 0) (10, [some (.ref b), some (.ref a), some (.int (Int32.ofInt (k : Int)))], [], M1, c9 - 0, s9 - 0) l_L_put_7 rfl (by rw [show Int32.ofNat k = Int32.ofInt k from rfl]; exact Int32.le_refl _) ?_
      exact lt_ret _ none l_L_put_26 rfl (K M1 O1 F1)
    | succ r ih =>
      intro k M1 c9 s9 hk hr hc hs O1 F1
      have fk := hf k (by omega)
      show mw_Wp sc mw_Good d_L_put 23 (2, [some (.ref b), some (.ref a), some (.int (Int32.ofInt (k : Int)))], [], M1, c9, s9) Qr Qx
      refine lr _ (3, [some (.ref b), some (.ref a), some (.int (Int32.ofInt (k : Int)))], [.int (Int32.ofInt (k : Int))], M1, c9, s9) l_L_put_2 rfl ?_
      refine lr _ (4, [some (.ref b), some (.ref a), some (.int (Int32.ofInt (k : Int)))], [.ref a, .int (Int32.ofInt (k : Int))], M1, c9, s9) l_L_put_3 rfl ?_
      have hS1 := hS M1 F1
      obtain ⟨e, g0, g1, al, ba, hrc, he⟩ := hS1.acc (sc := sc)
      refine mw_Wp.cal _ d_J0_length_8abf5 2 0 0 l_L_put_4 rfl rfl g_J0_length_8abf5 (by omega) (Nat.zero_le _) (Nat.zero_le _) (hrc.elim (fun h => Or.inl (h.elim (fun m9 k9 => ⟨_, m9, rfl, k9⟩))) (fun h => Or.inr (Or.inl ⟨rfl, _, rfl, h⟩))) ?_
      refine t_len hS1 (by decide) ?_
      show mw_Wp sc mw_Good d_L_put 23 (7, [some (.ref b), some (.ref a), some (.int (Int32.ofInt (k : Int)))], [.int (Int32.ofNat n), .int (Int32.ofInt (k : Int))], M1, c9 - 0, s9 - 0) Qr Qx
      refine lbF _ ((Int32.ofNat n) ≤ (Int32.ofInt (k : Int))) (26, [some (.ref b), some (.ref a), some (.int (Int32.ofInt (k : Int)))], [], M1, c9 - 0, s9 - 0) (10, [some (.ref b), some (.ref a), some (.int (Int32.ofInt (k : Int)))], [], M1, c9 - 0, s9 - 0) l_L_put_7 rfl (by
        rw [e1, nw_le ⟨by omega, by omega⟩ ⟨by omega, by omega⟩]
        omega) ?_
      refine lr _ (11, [some (.ref b), some (.ref a), some (.int (Int32.ofInt (k : Int)))], [.ref b], M1, c9 - 0, s9 - 0) l_L_put_10 rfl ?_
      refine lr _ (12, [some (.ref b), some (.ref a), some (.int (Int32.ofInt (k : Int)))], [.ref a, .ref b], M1, c9 - 0, s9 - 0) l_L_put_11 rfl ?_
      refine lr _ (13, [some (.ref b), some (.ref a), some (.int (Int32.ofInt (k : Int)))], [.int (Int32.ofInt (k : Int)), .ref a, .ref b], M1, c9 - 0, s9 - 0) l_L_put_12 rfl ?_
      refine mw_Wp.cal _ d_J0_charAt_5068e 3 0 0 l_L_put_13 rfl rfl g_J0_charAt_5068e (by omega) (Nat.zero_le _) (Nat.zero_le _) (hrc.elim (fun h => Or.inl (h.elim (fun m9 k9 => ⟨_, m9, rfl, k9⟩))) (fun h => Or.inr (Or.inl ⟨rfl, _, rfl, h⟩))) ?_
      refine t_chr hS1 (by omega) (by decide) ?_
      show mw_Wp sc mw_Good d_L_put 23 (16, [some (.ref b), some (.ref a), some (.int (Int32.ofInt (k : Int)))], [.int (Int32.ofInt (f k)), .ref b], M1, c9 - 0 - 0, s9 - 0 - 0) Qr Qx
      have e3 : (Int32.ofInt (f k)).toInt = f k := nw_ti ⟨by omega, by omega⟩
      have hap := o_append (w := of_T w (tx_put w.2.2.1 f k)) (x := f k) fk.1 fk.2 (by show w.2.2.1.1 + (k : Int) < 60; omega)
      rw [← e3] at hap
      refine lc_call [Int32.ofInt (f k)] hap O1 (by omega) l_L_put_16 rfl rfl g_X11_append (by decide) (by omega) (by omega) rfl rfl (fun R9 h9 => Or.inl ⟨_, _, rfl, h9⟩) True.intro (fun M2 O2 F2 => ?_)
      show mw_Wp sc mw_Good d_L_put 23 (19, [some (.ref b), some (.ref a), some (.int (Int32.ofInt (k : Int)))], [.int (Int32.ofInt ((of_T w (tx_put w.2.2.1 f k)).2.2.1.1 + 1))], M2, c9 - 0 - 0 - 4, s9 - 0 - 0 - 24) Qr Qx
      refine lr _ (20, [some (.ref b), some (.ref a), some (.int (Int32.ofInt (k : Int)))], [], M2, c9 - 0 - 0 - 4, s9 - 0 - 0 - 24) l_L_put_19 rfl ?_
      refine lr _ (23, [some (.ref b), some (.ref a), some (.int ((Int32.ofInt (k : Int)) + 1))], [], M2, c9 - 0 - 0 - 4, s9 - 0 - 0 - 24) l_L_put_20 rfl ?_
      refine lr _ (2, [some (.ref b), some (.ref a), some (.int ((Int32.ofInt (k : Int)) + 1))], [], M2, c9 - 0 - 0 - 4, s9 - 0 - 0 - 24) l_L_put_23 rfl ?_
      rw [Int.add_zero, e3] at O2
      have O2 : Off b sb M2 (of_T w ((tx_put w.2.2.1 f k).1 + 1, sp_set (tx_put w.2.2.1 f k).2 (tx_put w.2.2.1 f k).1 (f k))) B := O2
      rw [tx_put_s] at O2
      rw [show Int32.ofInt (k : Int) + 1 = Int32.ofInt ((k + 1 : Nat) : Int) by rw [Int.natCast_add, Int32.ofInt_add]; rfl]
      exact ih (k + 1) M2 _ _ (by omega) (by omega) (by omega) (by omega) O2 (F1.trans F2)
  refine lp n 0 M 240 1440 (Nat.zero_le _) (by omega) (by omega) (by omega) ?_ Fr.refl
  rw [tx_put_0]
  exact hO
end
