/-! an office: text, line, history -/
section
variable {sc : Nat × (Nat → Int32)} {D : Nat} {J L : Nat → Int → Int} {W : nw_W} {c sl : Nat} {Qr : nw_QR} {Qx : nw_QX} {g : Int → Int} {B : Int}
theorem z60 : (0 : Int) ≤ 0 ∧ (0 : Int) ≤ 60 := by decide
theorem z08 : (0 : Int) ≤ 0 ∧ (0 : Int) ≤ 8 := by decide
def of_T (w : of_S) (q : Int × (Int → Int)) : of_S := (w.1, w.2.1, q, w.2.2.2)
theorem o_append {w : of_S} {x : Int} (x1 : 32 ≤ x) (x2 : x ≤ 126) (x3 : w.2.2.1.1 < 60) : of_call d_X11_append [.inl x] w (.inr (some (.inl (w.2.2.1.1 + 1)))) (of_T w (w.2.2.1.1 + 1, sp_set w.2.2.1.2 w.2.2.1.1 x)) 0 := by
  intro sc J L W B Qr Qx h hB hQ
  show NW sc d_X11_append 20 (0, [some (.inr (.inl (some 0))), some (.inl x)], [], (J, L, W), 4, 24) Qr Qx
  obtain ⟨hA, hE, ⟨⟨t1, t2, t3⟩, t4⟩, hl⟩ := h
  refine b_X11_append_0 (by decide) (by decide) (by decide) ?_
  rw [t1]
  refine ⟨fun z n2 h2 => by omega, fun z => ⟨fun z1 => ⟨fun z2 => ?_, fun z2 n2 h2 => by omega⟩, fun z1 n2 h2 => by omega⟩⟩
  refine b_X1_addSign_0 ?_
  rw [t1]
  refine ⟨fun q => by omega, fun _ => ⟨by omega, by omega, by omega, b_X11_append_48 ?_⟩⟩
  rw [show nw_u (nw_u J 299 w.2.2.1.1 x) 297 0 (w.2.2.1.1 + 1) 297 0 = w.2.2.1.1 + 1 from nw_uS]
  have f1 : ∀ y, ¬ (y = 297 ∨ y = 299) → nw_u (nw_u J 299 w.2.2.1.1 x) 297 0 (w.2.2.1.1 + 1) y = J y := fun y a => by
    have a1 : ¬ y = 297 := fun e => a (Or.inl e)
    have a2 : ¬ y = 299 := fun e => a (Or.inr e)
    rw [nw_uP a1, nw_uP a2]
  refine hQ _ L W ?_ rfl (Nat.le_refl _)
  rw [Int.add_zero]
  refine ⟨hA.keep (fun y a => f1 y (by omega)) (fun _ _ => rfl) (by rw [f1 0 (by decide)]), ⟨by rw [f1 1 (by decide)]; exact hE.1, by rw [f1 0 (by decide)]; exact hE.2⟩, ⟨⟨nw_uS, by show 0 ≤ w.2.2.1.1 + 1; omega, by show w.2.2.1.1 + 1 ≤ 60; omega⟩, ?_⟩, hl.keep (fun y a => ?_) sp_wW.refl⟩
  · rw [nw_uP (by decide), nw_u304, t4]
    rfl
  · have a1 : ¬ y = 297 := by omega
    have a2 : ¬ y = 299 := by omega
    rw [nw_uP a1, nw_uP a2]
theorem o_run {w : of_S} {o : Nat ⊕ Option nw_V} {w' : of_S}
    (hE : ¬ (sp_pl w.2.2.1.2 w.2.2.1.1 10 0).2 = -1 → o = .inl 1 ∧ w' = (w.1, (w.2.1.1, (sp_pl w.2.2.1.2 w.2.2.1.1 10 0).2, w.2.1.2.2), (0, w.2.2.1.2), w.2.2.2))
    (hF : (sp_pl w.2.2.1.2 w.2.2.1.1 10 0).2 = -1 → ∀ (i : Nat) e r, i < (sp_pl w.2.2.1.2 w.2.2.1.1 10 0).1.length → (∀ j, j < i → sp_co w.2.2.1.2 w.2.2.1.1 w.1.1 j) → sp_cf w.2.2.1.2 w.2.2.1.1 w.1.1 i e r → o = .inl 2 ∧ w' = (w.1, ((if r = 0 then w.2.1.1 else r), w.2.1.2.1, (i : Int)), (0, w.2.2.1.2), w.2.2.2))
    (hS : (sp_pl w.2.2.1.2 w.2.2.1.1 10 0).2 = -1 → (∀ j, j < (sp_pl w.2.2.1.2 w.2.2.1.1 10 0).1.length → sp_co w.2.2.1.2 w.2.2.1.1 w.1.1 j) → o = .inr (some (.inl (((sp_pl w.2.2.1.2 w.2.2.1.1 10 0).1.length : Nat) : Int))) ∧ w' = ((of_ok w (sp_sq w.2.2.1.2 w.2.2.1.1 w.1.1 (sp_pl w.2.2.1.2 w.2.2.1.1 10 0).1.length)).1, w.2.1, (0, w.2.2.1.2), w.2.2.2)) : of_call d_X11_run [] w o w' 2200 := by
  intro sc J L W B Qr Qx h hB hQ
  show NW sc d_X11_run 20 (0, [some (.inr (.inl (some 0))), none, none], [], (J, L, W), 4, 24) Qr Qx
  obtain ⟨hA, ⟨e1, e2, e3⟩, ⟨⟨t1, t2, t3⟩, t4⟩, hl⟩ := h
  refine t_X11_run hA hB t1 ⟨t2, t3⟩ t4 (by decide) (by decide) (by decide) (fun err J1 x1 y1 z1 w1 y9 n2 h2 => ?_) (fun err i9 e r hi9 ho hf J1 L1 x1 l1 y1 z1 w1 y9 r1 c1 n2 h2 => ?_) (fun err ho J1 L1 W1 x1 l1 w1 w2 z1 y9 r1 c1 => ?_)
  · obtain ⟨rfl, rfl⟩ := hE err
    refine hQ J1 L (nw_top W n2) ⟨((hA.w rfl).upB (by omega) hB).keep (fun y a => x1 y (by omega)) (fun _ _ => rfl) (y1 10 (by decide)), ⟨by rw [x1 1 (by decide)]; exact e1, z1, by rw [y1 12 (by decide)]; exact e3⟩, ⟨⟨w1, z60⟩, y9.trans t4⟩, hl.keep (fun y a => x1 y (by omega)) (sp_wW.top h2)⟩ rfl h2
  · obtain ⟨rfl, rfl⟩ := hF err i9 e r hi9 ho hf
    refine hQ J1 L1 (nw_top W n2) ⟨c1.w rfl, ⟨by rw [r1, e1], by rw [y1 11 (by decide)]; exact e2, z1⟩, ⟨⟨w1, z60⟩, y9.trans t4⟩, hl.keep (fun y a => x1 y (by omega)) (sp_wW.top h2)⟩ rfl h2
  · obtain ⟨rfl, rfl⟩ := hS err ho
    refine hQ J1 L1 W1 ⟨c1, ⟨by rw [r1]; exact e1, by rw [x1 0 (by decide)]; exact e2, by rw [x1 0 (by decide)]; exact e3⟩, ⟨⟨z1, z60⟩, y9.trans t4⟩, hl.keep (fun y a => x1 y (by omega)) (sp_wW.of w2)⟩ (by rw [w2]) (by rw [w2]; exact Nat.le_refl _)
theorem o_undo {w : of_S} (nz : ¬ w.1.2.1 = 0) : of_call d_X11_undo [] w (.inr (some (.inl (w.1.2.1 - 1)))) ((w.1.2.2.1 (w.1.2.1 - 1).toNat, w.1.2.1 - 1, w.1.2.2.1, w.1.2.2.2), w.2) 0 := by
  intro sc J L W B Qr Qx h hB hQ
  show NW sc d_X11_undo 20 (0, [some (.inr (.inl (some 0)))], [], (J, L, W), 4, 24) Qr Qx
  obtain ⟨hA, ⟨e1, e2, e3⟩, ⟨⟨t1, t2, t3⟩, t4⟩, hl⟩ := h
  obtain ⟨hp, hn, n0⟩ := hA.2.1
  refine b_X11_undo_0 (by decide) (by decide) (by decide) ?_
  rw [hn]
  refine ⟨fun _ => ?_, fun z => absurd z nz⟩
  refine t_X5_takeBack hp hn (by omega) (by decide) (fun J1 L1 x1 l1 e ok => b_X11_undo_29 ?_)
  rw [e]
  refine hQ J1 L1 W ?_ rfl (Nat.le_refl _)
  rw [Int.add_zero]
  refine ⟨⟨ok _ _ (hA.2.2.1 (w.1.2.1 - 1).toNat (by omega)), ⟨hp, e, by show 0 ≤ w.1.2.1 - 1; omega, by show w.1.2.1 - 1 ≤ 8; omega⟩, fun k hk => ?_, by rw [x1 0 (by omega)]; exact hA.2.2.2.1, fun y => ?_⟩, ⟨by rw [x1 1 (by omega)]; exact e1, by rw [x1 0 (by omega)]; exact e2, by rw [x1 0 (by omega)]; exact e3⟩, ⟨⟨by rw [x1 297 (by omega)]; exact t1, t2, t3⟩, by rw [x1 299 (by omega)]; exact t4⟩, hl.keep (fun y a => x1 y (by omega)) sp_wW.refl⟩
  · have hk : (k : Int) < w.1.2.1 - 1 := hk
    have hk8 : k < 8 := by omega
    have h1 := hp.1 k hk8
    have h2 := nw_st_le h1.1
    exact (hA.2.2.1 k (by omega)).keep (fun x a b => x1 x (by omega)) (l1 _ (by omega))
  · exact (hA.2.2.2.2 y).keep (fun x a b => x1 x (by omega)) (l1 _ (by decide))
theorem o_save {w : of_S} : of_call d_X11_save [] w (.inr (some (.inl (w.1.1 4)))) ((w.1.1, w.1.2.1, w.1.2.2.1, 1, w.1.1), w.2) 0 := by
  intro sc J L W B Qr Qx h hB hQ
  show NW sc d_X11_save 20 (0, [some (.inr (.inl (some 0)))], [], (J, L, W), 4, 24) Qr Qx
  obtain ⟨hA, ⟨e1, e2, e3⟩, ⟨⟨t1, t2, t3⟩, t4⟩, hl⟩ := h
  have c4 := (sp_sh2.mp hA.1.1).mo
  refine b_X11_save_0 (by decide) (t_X8_copies (p := 79) (q := 2) (by decide) (by decide) (by decide) (by decide) (fun J1 L1 x1 l1 ok => b_X11_save_11 ?_))
  have u1 : ∀ x, ¬ x = 0 → nw_u J1 0 10 1 x = J1 x := fun x a => nw_uP a
  have f2 : ∀ x, ¬ (x = 0 ∨ (79 ≤ x ∧ x ≤ 102)) → nw_u J1 0 10 1 x = J x := fun x a => by rw [u1 x (by omega), x1 x (by omega)]
  have q : nw_u J1 0 10 1 18 0 = w.1.1 4 := by
    rw [f2 18 (by omega)]
    exact c4
  have q' : J1 18 0 = w.1.1 4 := by
    rw [x1 18 (by omega)]
    exact c4
  first | rw [q] | rw [q']
  refine hQ (nw_u J1 0 10 1) L1 W ?_ rfl (Nat.le_refl _)
  rw [Int.add_zero]
  refine ⟨⟨hA.1.keep (fun x a b => f2 x (by omega)) (l1 2 (by decide)), ⟨hA.2.1.1, by rw [f2 103 (by omega)]; exact hA.2.1.2.1, hA.2.1.2.2⟩, fun k hk => ?_, nw_uS, fun _ => (ok _ _ hA.1).keep (fun x a b => u1 x (by omega)) rfl⟩, ⟨by rw [f2 1 (by omega)]; exact e1, by rw [nw_uI (by decide), x1 0 (by omega)]; exact e2, by rw [nw_uI (by decide), x1 0 (by omega)]; exact e3⟩, ⟨⟨by rw [f2 297 (by omega)]; exact t1, t2, t3⟩, by rw [f2 299 (by omega)]; exact t4⟩, hl.keep (fun y a => f2 y (by omega)) sp_wW.refl⟩
  have hn := hA.2.1.2.2
  have hk : (k : Int) < w.1.2.1 := hk
  have hk8 : k < 8 := by omega
  have h1 := hA.2.1.1.1 k hk8
  have h2 := nw_st_le h1.1
  exact (hA.2.2.1 k hk).keep (fun x a b => f2 x (by omega)) (l1 _ (by omega))
theorem o_restore {w : of_S} (nz : ¬ w.1.2.2.2.1 = 0) : of_call d_X11_restore [] w (.inr (some (.inl (w.1.2.2.2.2 4)))) ((w.1.2.2.2.2, 0, w.1.2.2.1, w.1.2.2.2), w.2) 0 := by
  intro sc J L W B Qr Qx h hB hQ
  show NW sc d_X11_restore 20 (0, [some (.inr (.inl (some 0)))], [], (J, L, W), 4, 24) Qr Qx
  obtain ⟨hA, ⟨e1, e2, e3⟩, ⟨⟨t1, t2, t3⟩, t4⟩, hl⟩ := h
  refine b_X11_restore_0 (by decide) (by decide) (by decide) ?_
  rw [hA.2.2.2.1]
  refine ⟨fun _ => ?_, fun z => absurd z nz⟩
  refine t_X8_copies (p := 2) (q := 79) (by decide) (by decide) (by decide) (by decide) (fun J1 L1 x1 l1 ok => b_X11_restore_26 ?_)
  have u1 : ∀ x, ¬ x = 103 → nw_u J1 103 0 0 x = J1 x := fun x a => nw_uP a
  have f1 : ∀ x, ¬ ((2 ≤ x ∧ x ≤ 25) ∨ x = 103) → nw_u J1 103 0 0 x = J x := fun x a => by rw [u1 x (by omega), x1 x (by omega)]
  have o1 := ok _ _ (hA.2.2.2.2 nz)
  have q' : J1 18 0 = w.1.2.2.2.2 4 := (sp_sh2.mp o1.1).mo
  have q : nw_u J1 103 0 0 18 0 = w.1.2.2.2.2 4 := by rw [u1 18 (by decide)]; exact q'
  first | rw [q] | rw [q']
  refine hQ (nw_u J1 103 0 0) L1 W ?_ rfl (Nat.le_refl _)
  rw [Int.add_zero]
  refine ⟨⟨o1.keep (fun x a b => u1 x (by omega)) rfl, ⟨hA.2.1.1, nw_uS, z08⟩, fun k hk => ?_, by rw [f1 0 (by omega)]; exact hA.2.2.2.1, fun y => (hA.2.2.2.2 nz).keep (fun x a b => f1 x (by omega)) (l1 _ (by decide))⟩, ⟨by rw [f1 1 (by omega)]; exact e1, by rw [f1 0 (by omega)]; exact e2, by rw [f1 0 (by omega)]; exact e3⟩, ⟨⟨by rw [f1 297 (by omega)]; exact t1, t2, t3⟩, by rw [f1 299 (by omega)]; exact t4⟩, hl.keep (fun y a => f1 y (by omega)) sp_wW.refl⟩
  have hk : (k : Int) < 0 := hk
  omega
theorem o_coins {w : of_S} : of_call d_X11_coins [] w (.inr (some (.inr (.inr (.inl (w.1.1 6 - 5 * w.1.1 7)))))) w 0 := by
  intro sc J L W B Qr Qx h hB hQ
  show NW sc d_X11_coins 20 (0, [some (.inr (.inl (some 0)))], [], (J, L, W), 4, 24) Qr Qx
  have c6 := (sp_sh2.mp h.1.1.1).pu
  refine b_X11_coins_0 ?_
  rw [show L 2 5 = w.1.1 6 - 5 * w.1.1 7 from c6]
  exact hQ J L W (h.q (n := W.2.2.2.2) sp_wrk.refl (Nat.le_refl _)) rfl (Nat.le_refl _)
theorem o_lineAt {w : of_S} {x : Int} (x0 : 0 ≤ x) (x1 : x < w.2.2.2.1) : of_call d_X11_lineAt [.inl x] w (.inr (some (.inl (w.2.2.2.2 x)))) w 0 := by
  intro sc J L W B Qr Qx h hB hQ
  show NW sc d_X11_lineAt 20 (0, [some (.inr (.inl (some 0))), some (.inl x)], [], (J, L, W), 4, 24) Qr Qx
  obtain ⟨m, sb⟩ := h.2.2.2.1
  refine t_X11_lineAt sb h.2.2.2.2 (by decide) (by decide) (by decide) (fun bad => absurd ⟨x0, x1⟩ bad) (fun _ _ => ?_)
  exact hQ J L W (h.q (n := W.2.2.2.2) sp_wrk.refl (Nat.le_refl _)) rfl (Nat.le_refl _)
def sp_mq (s n : Int) : UInt64 := FP.ddiv (FP.i2d (Int32.ofInt s)) (FP.i2d (Int32.ofInt n))
/-- the phases together -/
def sp_ph (g : Int → Int) : Int := sp_sum (fun p => g (111 + p)) (g 4).toNat
theorem t_X7_sumOfPhases (hR : RC J L g) (hI : Inv g B) (hQ : Qr (some (.inl (sp_ph g))) (J, L, W)) : NW sc d_X7_sumOfPhases D (0, [some (.inr (.inl (some 18))), none, none], [], (J, L, W), c, sl) Qr Qx := by
  refine b_X7_sumOfPhases_0 ?_
  have lp : ∀ (m : Nat) (i a : Int), 0 ≤ i → i ≤ g 4 → (g 4 - i).toNat = m → a = sp_sum (fun p => g (111 + p)) i.toNat → NW sc d_X7_sumOfPhases D (4, [some (.inr (.inl (some 18))), some (.inl a), some (.inl i)], [], (J, L, W), c, sl) Qr Qx := by
    intro m
    induction m using Nat.strongRecOn with
    | ind m ih =>
      intro i a h0 h1 hm ha
      have e1 := hR.mo
      have e2 := hI.mo
      have e3 := hR.moo i h0
      have e4 := hI.moo i h0
      have st := sp_sum_step (f := fun p => g (111 + p)) h0
      have bd := sp_sum_bd (f := fun p => g (111 + p)) (b := 7) (n := i.toNat) (fun j a b => by
        have := hI.moo j a (by omega)
        exact ⟨this.2.2.2.2.2.2.2.2.1, this.2.2.2.2.2.2.2.2.2.1⟩)
      refine b_X7_sumOfPhases_4 ?_
      rw [e1]
      by_cases q : i < g 4
      · have e3 := e3 q
        have e4 := e4 q
        rw [e3.2.2.2.2.1]
        refine ⟨fun z => absurd q (by omega), fun _ => ⟨by omega, by omega, by omega, ih _ (by omega) (i + 1) _ (by omega) (by omega) rfl (by rw [st, ← ha])⟩⟩
      · refine ⟨fun _ => ?_, fun z => absurd z q⟩
        have : a = sp_ph g := by rw [ha, sp_ph, show i = g 4 by omega]
        rw [this]
        exact hQ
  exact lp _ 0 0 (by omega) (hI.mo).1 rfl rfl
theorem o_meanPhase {w : of_S} (nz : ¬ w.1.1 4 = 0) (hv : vf_n64 (sp_mq (sp_ph w.1.1) (w.1.1 4))) : of_call d_X11_meanPhase [] w (.inr (some (.inr (.inr (.inr (.inl (sp_mq (sp_ph w.1.1) (w.1.1 4)))))))) w 0 := by
  intro sc J L W B Qr Qx h hB hQ
  show NW sc d_X11_meanPhase 20 (0, [some (.inr (.inl (some 0)))], [], (J, L, W), 4, 24) Qr Qx
  have R := sp_sh2.mp h.1.1.1
  have c4 := R.mo
  refine b_X11_meanPhase_0 (by decide) (by decide) (by decide) ?_
  rw [c4]
  refine ⟨fun _ => ?_, fun z => absurd z nz⟩
  refine t_X7_sumOfPhases R h.1.1.2.1 (b_X11_meanPhase_31 ?_)
  rw [c4]
  exact ⟨hv, hQ J L W (h.q (n := W.2.2.2.2) sp_wrk.refl (Nat.le_refl _)) rfl (Nat.le_refl _)⟩
/-- the line: its cells may be new -/
theorem o_describe {sc : Nat × (Nat → Int32)} {w : of_S} {x : Int} {Qr : nw_QR} {Qx : nw_QX} (hx : sp_isF w.1.1 x) (h : of_P J L W w B) (hn : W.2.2.2.2 ≤ 990000) (hQ : ∀ (J' L' : Nat → Int → Int) (W' : nw_W), of_P J' L' W' (w.1, w.2.1, w.2.2.1, sp_line w.1.1 x w.2.2.2.2) B → (W'.2.2.1 = W.2.2.1 ∨ W.2.2.2.2 ≤ W'.2.2.1) → W.2.2.2.2 ≤ W'.2.2.2.2 → Qr (some (.inl (sp_line w.1.1 x w.2.2.2.2).1)) (J', L', W')) : NW sc d_X11_describeFerry 20 (0, [some (.inr (.inl (some 0))), some (.inl x)], [], (J, L, W), 27, 4000) Qr Qx := by
  obtain ⟨hA, ⟨e1, e2, e3⟩, ⟨⟨t1, t2, t3⟩, t4⟩, ⟨⟨m, sb⟩, hl⟩⟩ := h
  have R := sp_sh2.mp hA.1.1
  have I := hA.1.2.1
  refine t_X11_describeFerry R I sb hn (by decide) (by decide) (by decide) (fun nf => absurd hx nf) (fun hf J1 L1 W1 m1 s1 f1 l1 w1 => ?_)
  have le := sp_le2_line (g := w.1.1) (f := x) (l := w.2.2.2.2) (l' := w.2.2.2.2)
  exact hQ J1 L1 W1 ⟨(hA.w w1.2.1.1).keep (fun y a => f1 y (by omega)) (fun y a => l1 y (by omega)) (by rw [f1 0 (by omega)]), ⟨by rw [f1 1 (by omega)]; exact e1, by rw [f1 0 (by omega)]; exact e2, by rw [f1 0 (by omega)]; exact e3⟩, ⟨⟨by rw [f1 297 (by omega)]; exact t1, t2, t3⟩, by rw [f1 299 (by omega)]; exact t4⟩, ⟨m1, s1⟩, fun k k0 k1 => (le.2 k k0 k1).2⟩ w1.2.1.2 w1.2.2.1
end
