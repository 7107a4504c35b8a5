/-! fails, isLine -/
section
variable {sc : Nat × (Nat → Int32)}
theorem o_errorPosition {w : of_S} {p : Int} (h : w.2.1.2.1 = p) (hp : ¬ p = -1) : of_call d_X11_errorPosition [] w (of_v (.inr p)) w 0 := q_errorPosition (fun k v h9 => by
  unfold q_errorPosition_s at h9
  have e : k = 0 ∧ v = p := by omega
  obtain ⟨rfl, rfl⟩ := e
  rfl)
theorem o_failedCommand {w : of_S} {p : Int} (h : w.2.1.2.2 = p) (hp : ¬ p = -1) : of_call d_X11_failedCommand [] w (of_v (.inr p)) w 0 := q_failedCommand (fun k v h9 => by
  unfold q_failedCommand_s at h9
  have e : k = 0 ∧ v = p := by omega
  obtain ⟨rfl, rfl⟩ := e
  rfl)
theorem t_fails {a b sb : Nat} {f : Nat → Int} {l : List Int} {w : of_S} {M : mw_Mem} {B p : Int} {Qr : Option Value → mw_Mem → Prop} {Qx : Nat → mw_Mem → Prop} (hO : Off b sb M w B) (hB : B + 2200 ≤ 4000000) (h0 : w.2.2.1.1 = 0) (hn : l.length ≤ 60) (hf : ∀ k, k < l.length → f k = l.getD k 0) (hl : ∀ k, k < l.length → 32 ≤ l.getD k 0 ∧ l.getD k 0 ≤ 126) (hS : ∀ M', Fr b sb M M' → Str M' a l.length f) (hp : (tx_cm l).2 = p) (p0 : 0 ≤ p ∧ p ≤ 60) (K : ∀ M', Off b sb M' (w.1, (w.2.1.1, p, w.2.1.2.2), (0, (tx_put w.2.2.1 f l.length).2), w.2.2.2) (B + 2200) → Fr b sb M M' → Qr (some (.int 1)) M') : mw_Wp sc mw_Good d_L_fails 30 (0, [some (.ref b), some (.ref a), some (.int (Int32.ofInt p))], [], M, 300, 1800) Qr Qx := by
  have te := tx_eq (l := l) (q := w.2.2.1) (f := f) h0 hf
  refine lr _ (1, [some (.ref b), some (.ref a), some (.int (Int32.ofInt p))], [.ref b], M, 300, 1800) l_L_fails_0 rfl ?_
  refine lr _ (2, [some (.ref b), some (.ref a), some (.int (Int32.ofInt p))], [.ref a, .ref b], M, 300, 1800) l_L_fails_1 rfl ?_
  refine mw_Wp.cal _ d_L_put 23 240 1440 l_L_fails_2 rfl rfl g_L_put (by decide) (by decide) (by decide) True.intro ?_
  refine t_put hO (by omega) (by omega) (by omega) (fun k hk => by rw [hf k hk]; exact hl k hk) hS (fun M1 O1 F1 => ?_)
  show mw_Wp sc mw_Good d_L_fails 30 (5, [some (.ref b), some (.ref a), some (.int (Int32.ofInt p))], [], M1, 60, 360) Qr Qx
  refine lr _ (6, [some (.ref b), some (.ref a), some (.int (Int32.ofInt p))], [.ref b], M1, 60, 360) l_L_fails_5 rfl ?_
  have hr := o_runE (w := of_T w (tx_put w.2.2.1 f l.length)) te.1 te.2 hp (by omega)
  refine lc_own [] _ (a_runs hr (fun e he => by cases he; exact Or.inl rfl)) O1 hB l_L_fails_6 rfl rfl g_L_runs (by decide) (by decide) (by decide) True.intro rfl rfl (fun M2 O2 F2 => ?_)
  show mw_Wp sc mw_Good d_L_fails 30 (9, [some (.ref b), some (.ref a), some (.int (Int32.ofInt p))], [.int (of_r (.inl 1))], M2, 56, 336) Qr Qx
  rw [show of_r (.inl 1) = -1 from by decide]
  refine lr _ (10, [some (.ref b), some (.ref a), some (.int (Int32.ofInt p))], [.int (-1), .int (-1)], M2, 56, 336) l_L_fails_9 rfl ?_
  refine lbF _ (¬ (-1) = (-1)) (25, [some (.ref b), some (.ref a), some (.int (Int32.ofInt p))], [], M2, 56, 336) (13, [some (.ref b), some (.ref a), some (.int (Int32.ofInt p))], [], M2, 56, 336) l_L_fails_10 rfl (fun z => z rfl) ?_
  refine lr _ (14, [some (.ref b), some (.ref a), some (.int (Int32.ofInt p))], [.ref b], M2, 56, 336) l_L_fails_13 rfl ?_
  refine lc_call [] (o_errorPosition (p := p) rfl (by omega)) O2 (by omega) l_L_fails_14 rfl rfl g_X11_errorPosition (by decide) (by decide) (by decide) rfl rfl (fun R9 h9 => Or.inl ⟨_, _, rfl, h9⟩) (of_v_nr _) (fun M3 O3 F3 => ?_)
  rw [Int.add_zero] at O3
  show mw_Wp sc mw_Good d_L_fails 30 (17, [some (.ref b), some (.ref a), some (.int (Int32.ofInt p))], [.int (Int32.ofInt p)], M3, 52, 312) Qr Qx
  refine lr _ (18, [some (.ref b), some (.ref a), some (.int (Int32.ofInt p))], [.int (Int32.ofInt p), .int (Int32.ofInt p)], M3, 52, 312) l_L_fails_17 rfl ?_
  refine lbF _ (¬ (Int32.ofInt p) = (Int32.ofInt p)) (25, [some (.ref b), some (.ref a), some (.int (Int32.ofInt p))], [], M3, 52, 312) (21, [some (.ref b), some (.ref a), some (.int (Int32.ofInt p))], [], M3, 52, 312) l_L_fails_18 rfl (fun z => z rfl) ?_
  refine lr _ (22, [some (.ref b), some (.ref a), some (.int (Int32.ofInt p))], [.int 1], M3, 52, 312) l_L_fails_21 rfl ?_
  refine lr _ (26, [some (.ref b), some (.ref a), some (.int (Int32.ofInt p))], [.int 1], M3, 52, 312) l_L_fails_22 rfl ?_
  exact lt_retP _ _ (some (.int 1)) l_L_fails_26 rfl ⟨_, rfl, by decide⟩ (K M3 O3 ((F1.trans F2).trans F3))
theorem t_isLine {a n b sb : Nat} {f : Nat → Int} {w : of_S} {M : mw_Mem} {B : Int} {Qr : Option Value → mw_Mem → Prop} {Qx : Nat → mw_Mem → Prop} (hO : Off b sb M w B) (hB : B ≤ 4000000) (hn : w.2.2.2.1 = n) (hf : ∀ k : Nat, k < n → w.2.2.2.2 k = f k) (hS : ∀ M', Fr b sb M M' → Str M' a n f) (K : ∀ M', Off b sb M' w B → Fr b sb M M' → Qr (some (.int 1)) M') : mw_Wp sc mw_Good d_L_isLine 30 (0, [some (.ref b), some (.int (Int32.ofInt (n : Int))), some (.ref a), none], [], M, 400, 2400) Qr Qx := by
  have n100 := (hS M Fr.refl).1
  have e1 : Int32.ofNat n = Int32.ofInt (n : Int) := rfl
  have lp : ∀ (r k : Nat) (M1 : mw_Mem) (c9 s9 : Nat), k ≤ n → n - k = r → 4 * r ≤ c9 → 24 * r ≤ s9 → Off b sb M1 w B → Fr b sb M M1 → mw_Wp sc mw_Good d_L_isLine 30 (12, [some (.ref b), some (.int (Int32.ofInt (n : Int))), some (.ref a), some (.int (Int32.ofInt (k : Int)))], [], M1, c9, s9) Qr Qx := by
    intro r
    induction r with
    | zero =>
      intro k M1 c9 s9 hk hr hc hs O1 F1
      have ek : k = n := by omega
      subst ek
      show mw_Wp sc mw_Good d_L_isLine 30 (12, [some (.ref b), some (.int (Int32.ofInt (k : Int))), some (.ref a), some (.int (Int32.ofInt (k : Int)))], [], M1, c9, s9) Qr Qx
      refine lr _ (13, [some (.ref b), some (.int (Int32.ofInt (k : Int))), some (.ref a), some (.int (Int32.ofInt (k : Int)))], [.int (Int32.ofInt (k : Int))], M1, c9, s9) l_L_isLine_12 rfl ?_
      refine lr _ (14, [some (.ref b), some (.int (Int32.ofInt (k : Int))), some (.ref a), some (.int (Int32.ofInt (k : Int)))], [.int (Int32.ofInt (k : Int)), .int (Int32.ofInt (k : Int))], M1, c9, s9) l_L_isLine_13 rfl ?_
      refine lbT _ ((Int32.ofInt (k : Int)) ≤ (Int32.ofInt (k : Int))) (38, [some (.ref b), some (.int (Int32.ofInt (k : Int))), some (.ref a), some (.int (Int32.ofInt (k : Int)))], [], M1, c9, s9) (17, [some (.ref b), some (.int (Int32.ofInt (k : Int))), some (.ref a), some (.int (Int32.ofInt (k : Int)))], [], M1, c9, s9) l_L_isLine_14 rfl (Int32.le_refl _) ?_
      refine lr _ (39, [some (.ref b), some (.int (Int32.ofInt (k : Int))), some (.ref a), some (.int (Int32.ofInt (k : Int)))], [.int 1], M1, c9, s9) l_L_isLine_38 rfl ?_
      exact lt_retP _ _ (some (.int 1)) l_L_isLine_39 rfl ⟨_, rfl, by decide⟩ (K M1 O1 F1)
    | succ r ih =>
      intro k M1 c9 s9 hk hr hc hs O1 F1
      have hS1 := hS M1 F1
      obtain ⟨e, g0, g1, al, ba, hrc, he⟩ := hS1.acc (sc := sc)
      show mw_Wp sc mw_Good d_L_isLine 30 (12, [some (.ref b), some (.int (Int32.ofInt (n : Int))), some (.ref a), some (.int (Int32.ofInt (k : Int)))], [], M1, c9, s9) Qr Qx
      refine lr _ (13, [some (.ref b), some (.int (Int32.ofInt (n : Int))), some (.ref a), some (.int (Int32.ofInt (k : Int)))], [.int (Int32.ofInt (k : Int))], M1, c9, s9) l_L_isLine_12 rfl ?_
      refine lr _ (14, [some (.ref b), some (.int (Int32.ofInt (n : Int))), some (.ref a), some (.int (Int32.ofInt (k : Int)))], [.int (Int32.ofInt (n : Int)), .int (Int32.ofInt (k : Int))], M1, c9, s9) l_L_isLine_13 rfl ?_
      refine lbF _ ((Int32.ofInt (n : Int)) ≤ (Int32.ofInt (k : Int))) (38, [some (.ref b), some (.int (Int32.ofInt (n : Int))), some (.ref a), some (.int (Int32.ofInt (k : Int)))], [], M1, c9, s9) (17, [some (.ref b), some (.int (Int32.ofInt (n : Int))), some (.ref a), some (.int (Int32.ofInt (k : Int)))], [], M1, c9, s9) l_L_isLine_14 rfl (by
        rw [nw_le ⟨by omega, by omega⟩ ⟨by omega, by omega⟩]
        omega) ?_
      refine lr _ (18, [some (.ref b), some (.int (Int32.ofInt (n : Int))), some (.ref a), some (.int (Int32.ofInt (k : Int)))], [.ref b], M1, c9, s9) l_L_isLine_17 rfl ?_
      refine lr _ (19, [some (.ref b), some (.int (Int32.ofInt (n : Int))), some (.ref a), some (.int (Int32.ofInt (k : Int)))], [.int (Int32.ofInt (k : Int)), .ref b], M1, c9, s9) l_L_isLine_18 rfl ?_
      have ekt : (Int32.ofInt (k : Int)).toInt = k := nw_ti ⟨by omega, by omega⟩
      have hla := o_lineAt (w := w) (x := (k : Int)) (by omega) (by omega)
      rw [← ekt] at hla
      refine lc_call [Int32.ofInt (k : Int)] hla O1 (by omega) l_L_isLine_19 rfl rfl g_X11_lineAt (by decide) (by omega) (by omega) rfl rfl (fun R9 h9 => Or.inl ⟨_, _, rfl, h9⟩) True.intro (fun M2 O2 F2 => ?_)
      rw [Int.add_zero] at O2
      show mw_Wp sc mw_Good d_L_isLine 30 (22, [some (.ref b), some (.int (Int32.ofInt (n : Int))), some (.ref a), some (.int (Int32.ofInt (k : Int)))], [.int (Int32.ofInt (w.2.2.2.2 (Int32.ofInt (k : Int)).toInt))], M2, c9 - 4, s9 - 24) Qr Qx
      rw [ekt, hf k (by omega)]
      have hS2 := hS M2 (F1.trans F2)
      obtain ⟨e, g0, g1, al, ba, hrc, he⟩ := hS2.acc (sc := sc)
      refine lr _ (23, [some (.ref b), some (.int (Int32.ofInt (n : Int))), some (.ref a), some (.int (Int32.ofInt (k : Int)))], [.ref a, .int (Int32.ofInt (f k))], M2, c9 - 4, s9 - 24) l_L_isLine_22 rfl ?_
      refine lr _ (24, [some (.ref b), some (.int (Int32.ofInt (n : Int))), some (.ref a), some (.int (Int32.ofInt (k : Int)))], [.int (Int32.ofInt (k : Int)), .ref a, .int (Int32.ofInt (f k))], M2, c9 - 4, s9 - 24) l_L_isLine_23 rfl ?_
      refine mw_Wp.cal _ d_J0_charAt_5068e 3 0 0 l_L_isLine_24 rfl rfl g_J0_charAt_5068e (by decide) (Nat.zero_le _) (Nat.zero_le _) (hrc.elim (fun h => Or.inl (h.elim (fun m9 k9 => ⟨_, m9, rfl, k9⟩))) (fun h => Or.inr (Or.inl ⟨rfl, _, rfl, h⟩))) ?_
      refine t_chr hS2 (by omega) (by decide) ?_
      show mw_Wp sc mw_Good d_L_isLine 30 (27, [some (.ref b), some (.int (Int32.ofInt (n : Int))), some (.ref a), some (.int (Int32.ofInt (k : Int)))], [.int (Int32.ofInt (f k)), .int (Int32.ofInt (f k))], M2, c9 - 4 - 0, s9 - 24 - 0) Qr Qx
      refine lbT _ ((Int32.ofInt (f k)) = (Int32.ofInt (f k))) (32, [some (.ref b), some (.int (Int32.ofInt (n : Int))), some (.ref a), some (.int (Int32.ofInt (k : Int)))], [], M2, c9 - 4 - 0, s9 - 24 - 0) (30, [some (.ref b), some (.int (Int32.ofInt (n : Int))), some (.ref a), some (.int (Int32.ofInt (k : Int)))], [], M2, c9 - 4 - 0, s9 - 24 - 0) l_L_isLine_27 rfl rfl ?_
      refine lr _ (35, [some (.ref b), some (.int (Int32.ofInt (n : Int))), some (.ref a), some (.int ((Int32.ofInt (k : Int)) + 1))], [], M2, c9 - 4 - 0, s9 - 24 - 0) l_L_isLine_32 rfl ?_
      refine lr _ (12, [some (.ref b), some (.int (Int32.ofInt (n : Int))), some (.ref a), some (.int ((Int32.ofInt (k : Int)) + 1))], [], M2, c9 - 4 - 0, s9 - 24 - 0) l_L_isLine_35 rfl ?_
      rw [show Int32.ofInt (k : Int) + 1 = Int32.ofInt ((k + 1 : Nat) : Int) by rw [Int.natCast_add, Int32.ofInt_add]; rfl]
      exact ih (k + 1) M2 _ _ (by omega) (by omega) (by omega) (by omega) O2 (F1.trans F2)
  have hS0 := hS M Fr.refl
  obtain ⟨e, g0, g1, al, ba, hrc, he⟩ := hS0.acc (sc := sc)
  refine lr _ (1, [some (.ref b), some (.int (Int32.ofInt (n : Int))), some (.ref a), none], [.int (Int32.ofInt (n : Int))], M, 400, 2400) l_L_isLine_0 rfl ?_
  refine lr _ (2, [some (.ref b), some (.int (Int32.ofInt (n : Int))), some (.ref a), none], [.ref a, .int (Int32.ofInt (n : Int))], M, 400, 2400) l_L_isLine_1 rfl ?_
  refine mw_Wp.cal _ d_J0_length_8abf5 2 0 0 l_L_isLine_2 rfl rfl g_J0_length_8abf5 (by decide) (Nat.zero_le _) (Nat.zero_le _) (hrc.elim (fun h => Or.inl (h.elim (fun m9 k9 => ⟨_, m9, rfl, k9⟩))) (fun h => Or.inr (Or.inl ⟨rfl, _, rfl, h⟩))) ?_
  refine t_len hS0 (by decide) ?_
  show mw_Wp sc mw_Good d_L_isLine 30 (5, [some (.ref b), some (.int (Int32.ofInt (n : Int))), some (.ref a), none], [.int (Int32.ofNat n), .int (Int32.ofInt (n : Int))], M, 400, 2400) Qr Qx
  refine lbT _ ((Int32.ofInt (n : Int)) = (Int32.ofNat n)) (10, [some (.ref b), some (.int (Int32.ofInt (n : Int))), some (.ref a), none], [], M, 400, 2400) (8, [some (.ref b), some (.int (Int32.ofInt (n : Int))), some (.ref a), none], [], M, 400, 2400) l_L_isLine_5 rfl rfl ?_
  refine lr _ (11, [some (.ref b), some (.int (Int32.ofInt (n : Int))), some (.ref a), none], [.int 0], M, 400, 2400) l_L_isLine_10 rfl ?_
  refine lr _ (12, [some (.ref b), some (.int (Int32.ofInt (n : Int))), some (.ref a), some (.int 0)], [], M, 400, 2400) l_L_isLine_11 rfl ?_
  rw [show (0 : Int32) = Int32.ofInt ((0 : Nat) : Int) from rfl]
  exact lp n 0 M 400 2400 (Nat.zero_le _) (by omega) (by omega) (by omega) hO Fr.refl
end
