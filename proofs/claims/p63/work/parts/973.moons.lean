/-! answers that the state fixes; ferries, moons -/
section
variable {sc : Nat × (Nat → Int32)}
theorem o_craterCount {w : of_S} : of_call d_X11_craterCount [] w (of_v (.inr (w.1.1 1))) w 0 := q_craterCount (fun k v h => by
  unfold q_craterCount_s at h
  obtain ⟨rfl, rfl⟩ := h
  rfl)
theorem o_channelCount {w : of_S} : of_call d_X11_channelCount [] w (of_v (.inr (w.1.1 2))) w 0 := q_channelCount (fun k v h => by
  unfold q_channelCount_s at h
  obtain ⟨rfl, rfl⟩ := h
  rfl)
theorem o_hour {w : of_S} : of_call d_X11_hour [] w (of_v (.inr (w.1.1 0))) w 0 := q_hour (fun k v h => by
  unfold q_hour_s at h
  obtain ⟨rfl, rfl⟩ := h
  rfl)
theorem o_passageCount {w : of_S} : of_call d_X11_passageCount [] w (of_v (.inr (w.1.1 8))) w 0 := q_passageCount (fun k v h => by
  unfold q_passageCount_s at h
  obtain ⟨rfl, rfl⟩ := h
  rfl)
theorem o_strandingCount {w : of_S} : of_call d_X11_strandingCount [] w (of_v (.inr (w.1.1 9))) w 0 := q_strandingCount (fun k v h => by
  unfold q_strandingCount_s at h
  obtain ⟨rfl, rfl⟩ := h
  rfl)
theorem o_fareTotal {w : of_S} : of_call d_X11_fareTotal [] w (of_v (.inr (w.1.1 6))) w 0 := q_fareTotal (fun k v h => by
  unfold q_fareTotal_s at h
  obtain ⟨rfl, rfl⟩ := h
  rfl)
theorem o_depthOf {w : of_S} {x : Int} (hx : 0 ≤ x ∧ x < w.1.1 1) : of_call d_X11_depthOf [.inl x] w (of_v (.inr (w.1.1 (10 + x)))) w 0 := q_depthOf (fun k v h => by
  unfold q_depthOf_s at h
  have e : k = 0 ∧ v = w.1.1 (10 + x) := by omega
  obtain ⟨rfl, rfl⟩ := e
  rfl)
def sv_left (g : Int → Int) (x : Int) : Int := if 0 < g (62 + x) then g (62 + x) - g 0 else 0
theorem o_hoursLeft {w : of_S} {x : Int} (hx : 0 ≤ x ∧ x < w.1.1 3) : of_call d_X11_hoursLeft [.inl x] w (of_v (.inr (sv_left w.1.1 x))) w 0 := q_hoursLeft (fun k v h => by
  unfold q_hoursLeft_s at h
  have e : k = 0 ∧ v = sv_left w.1.1 x := by
    unfold sv_left
    split <;> omega
  obtain ⟨rfl, rfl⟩ := e
  rfl)
theorem o_loadOf {w : of_S} {x : Int} (hx : 0 ≤ x ∧ x < w.1.1 3) : of_call d_X11_loadOf [.inl x] w (of_v (.inr (sp_car w.1.1 x))) w 0 := q_loadOf (fun k v h => by
  unfold q_loadOf_s at h
  have e : k = 0 ∧ v = sp_car w.1.1 x := by omega
  obtain ⟨rfl, rfl⟩ := e
  rfl)
theorem o_phaseOf {w : of_S} {x : Int} (hx : ¬ sp_plcF w.1.1 x = -1) : of_call d_X11_phaseOf [.inl x] w (of_v (.inr (w.1.1 (111 + sp_plcF w.1.1 x)))) w 0 := q_phaseOf (fun k v h => by
  unfold q_phaseOf_s at h
  have e : k = 0 ∧ v = w.1.1 (111 + sp_plcF w.1.1 x) := by omega
  obtain ⟨rfl, rfl⟩ := e
  rfl)
theorem o_fareOf {w : of_S} {x : Int} (hx : ¬ sp_plcF w.1.1 x = -1) : of_call d_X11_fareOf [.inl x] w (of_v (.inr (sp_fare w.1.1 (sp_plcF w.1.1 x)))) w 0 := q_fareOf (fun k v h => by
  unfold q_fareOf_s at h
  have e : k = 0 ∧ v = sp_fare w.1.1 (sp_plcF w.1.1 x) := by omega
  obtain ⟨rfl, rfl⟩ := e
  rfl)
/-- act 11 at crater 0: -1 where there is no such ferry, and only there -/
theorem x_fer (g : Int → Int) (x : Int) (hx : 0 ≤ x ∧ x ≤ 3) : ∃ v : Int32, (∀ w : of_S, w.1.1 = g → la sc d_L_act [11, Int32.ofInt x, 0, 0] w v w 0 22 4 24) ∧ (Inv g 4000000 → (v = -1 ↔ ¬ x < g 3)) := by
  have ex : (Int32.ofInt x).toInt = x := nw_ti ⟨by omega, by omega⟩
  have e0 : (0 : Int32).toInt = 0 := by decide
  by_cases hI : Inv g 4000000
  case neg => exact ⟨0, fun w hw => la_off (by rw [hw]; exact hI), fun h => absurd h hI⟩
  have hho := hI.ho
  have hcr := hI.cr
  have hf := hI.fer x
  by_cases h1 : x < g 3
  · have hv : (0 ≤ x ∧ x < g 3) ∧ 0 ≤ (0 : Int) ∧ (0 : Int) < g 1 := by
      have := hf hx.1 h1
      omega
    by_cases h2 : ∃ t, sp_ea g x 0 t ∧ t ≤ g 0 + 99
    · obtain ⟨t, h2, h3⟩ := h2
      have ht : 0 ≤ t := by
        obtain ⟨k, hk⟩ := h2.1
        have := (sp_rc_rng hI ⟨hx.1, h1⟩ hk).2
        omega
      refine ⟨Int32.ofInt t, fun w hw => a_act11 (r := .inr t) _ _ _ (q_earliestArrival (fun k v h => ?_)) (fun e he => by cases he), fun _ => ⟨fun e => ?_, fun q => absurd h1 q⟩⟩
      · rw [ex, e0] at h
        have : k = 0 ∧ (k = 0 → v = t) := q_earliestArrival_u h (by
          unfold q_earliestArrival_s
          rw [hw]
          exact Or.inr (Or.inr ⟨rfl, hv, h2, h3⟩))
        obtain ⟨rfl, e⟩ := this
        rw [e rfl]
        rfl
      · rw [show (-1 : Int32) = Int32.ofInt (-1) from rfl, nw_inj ⟨by omega, by omega⟩ ⟨by decide, by decide⟩] at e
        omega
    · refine ⟨Int32.ofNat (4294967295 - 4), fun w hw => a_act11 (r := .inl 4) _ _ _ (q_earliestArrival (fun k v h => ?_)) (fun e he => by cases he; decide), fun _ => ⟨fun e => absurd e (by decide), fun q => absurd h1 q⟩⟩
      rw [ex, e0] at h
      unfold q_earliestArrival_s at h
      rw [hw] at h
      rcases h with ⟨_, nv⟩ | ⟨k5, _, _⟩ | ⟨_, _, a, b⟩
      · exact absurd hv nv
      · subst k5
        rfl
      · exact absurd ⟨v, a, b⟩ h2
  · refine ⟨Int32.ofNat (4294967295 - 0), fun w hw => a_act11 (r := .inl 0) _ _ _ (q_earliestArrival (fun k v h => ?_)) (fun e he => by cases he; decide), fun _ => ⟨fun _ => h1, fun _ => by decide⟩⟩
    rw [ex, e0] at h
    unfold q_earliestArrival_s at h
    rw [hw] at h
    rcases h with ⟨k1, _⟩ | ⟨_, nv, _⟩ | ⟨_, nv, _⟩
    · subst k1
      rfl
    · exact absurd nv.1.2 h1
    · exact absurd nv.1.2 h1
/-- ferries counts the ferries -/
theorem t_ferries (g : Int → Int) : ∀ w : of_S, w.1.1 = g → la sc d_L_ferries [] w (Int32.ofInt (g 3)) w 0 24 16 96 := by
  intro w hw b sb M B Qr Qx hO hB K
  rw [Int.add_zero] at hB K
  have hI4 : Inv g 4000000 := by
    rw [← hw]
    exact hO.inv.1.up hB (Int.le_refl _)
  have h3 := hI4.fe
  have lp : ∀ (r i : Nat) (M1 : mw_Mem) (c9 s9 : Nat), (i : Int) ≤ g 3 → g 3 - i = r → 4 * (r + 1) ≤ c9 → 24 * (r + 1) ≤ s9 → Off b sb M1 w B → Fr b sb M M1 → mw_Wp sc mw_Good d_L_ferries 24 (2, [some (.ref b), some (.int (Int32.ofInt (i : Int)))], [], M1, c9, s9) Qr Qx := by
    intro r
    induction r with
    | zero =>
      intro i M1 c9 s9 hi hr hc hs O1 F1
      obtain ⟨v, hv, hv1⟩ := x_fer (sc := sc) g i (by omega)
      show mw_Wp sc mw_Good d_L_ferries 24 (2, [some (.ref b), some (.int (Int32.ofInt (i : Int)))], [], M1, c9, s9) Qr Qx
      refine lr _ (3, [some (.ref b), some (.int (Int32.ofInt (i : Int)))], [.ref b], M1, c9, s9) l_L_ferries_2 rfl ?_
      refine lr _ (5, [some (.ref b), some (.int (Int32.ofInt (i : Int)))], [.int 11, .ref b], M1, c9, s9) l_L_ferries_3 rfl ?_
      refine lr _ (6, [some (.ref b), some (.int (Int32.ofInt (i : Int)))], [.int (Int32.ofInt (i : Int)), .int 11, .ref b], M1, c9, s9) l_L_ferries_5 rfl ?_
      refine lr _ (7, [some (.ref b), some (.int (Int32.ofInt (i : Int)))], [.int 0, .int (Int32.ofInt (i : Int)), .int 11, .ref b], M1, c9, s9) l_L_ferries_6 rfl ?_
      refine lr _ (8, [some (.ref b), some (.int (Int32.ofInt (i : Int)))], [.int 0, .int 0, .int (Int32.ofInt (i : Int)), .int 11, .ref b], M1, c9, s9) l_L_ferries_7 rfl ?_
      refine lc_own [11, Int32.ofInt (i : Int), 0, 0] _ (hv w hw) O1 (by omega) l_L_ferries_8 rfl rfl g_L_act (by decide) (by omega) (by omega) True.intro rfl rfl (fun M2 O2 F2 => ?_)
      rw [Int.add_zero] at O2
      show mw_Wp sc mw_Good d_L_ferries 24 (11, [some (.ref b), some (.int (Int32.ofInt (i : Int)))], [.int v], M2, c9 - 4, s9 - 24) Qr Qx
      refine lr _ (12, [some (.ref b), some (.int (Int32.ofInt (i : Int)))], [.int (-1), .int v], M2, c9 - 4, s9 - 24) l_L_ferries_11 rfl ?_
      have ei : (i : Int) = g 3 := by omega
      rw [← ei] at K
      refine lbT _ (v = (-1)) (21, [some (.ref b), some (.int (Int32.ofInt (i : Int)))], [], M2, c9 - 4, s9 - 24) (15, [some (.ref b), some (.int (Int32.ofInt (i : Int)))], [], M2, c9 - 4, s9 - 24) l_L_ferries_12 rfl ((hv1 hI4).mpr (by omega)) ?_
      refine lr _ (22, [some (.ref b), some (.int (Int32.ofInt (i : Int)))], [.int (Int32.ofInt (i : Int))], M2, c9 - 4, s9 - 24) l_L_ferries_21 rfl ?_
      exact lt_ret _ (some (.int (Int32.ofInt (i : Int)))) l_L_ferries_22 rfl (K M2 O2 (F1.trans F2))
    | succ r ih =>
      intro i M1 c9 s9 hi hr hc hs O1 F1
      obtain ⟨v, hv, hv1⟩ := x_fer (sc := sc) g i (by omega)
      show mw_Wp sc mw_Good d_L_ferries 24 (2, [some (.ref b), some (.int (Int32.ofInt (i : Int)))], [], M1, c9, s9) Qr Qx
      refine lr _ (3, [some (.ref b), some (.int (Int32.ofInt (i : Int)))], [.ref b], M1, c9, s9) l_L_ferries_2 rfl ?_
      refine lr _ (5, [some (.ref b), some (.int (Int32.ofInt (i : Int)))], [.int 11, .ref b], M1, c9, s9) l_L_ferries_3 rfl ?_
      refine lr _ (6, [some (.ref b), some (.int (Int32.ofInt (i : Int)))], [.int (Int32.ofInt (i : Int)), .int 11, .ref b], M1, c9, s9) l_L_ferries_5 rfl ?_
      refine lr _ (7, [some (.ref b), some (.int (Int32.ofInt (i : Int)))], [.int 0, .int (Int32.ofInt (i : Int)), .int 11, .ref b], M1, c9, s9) l_L_ferries_6 rfl ?_
      refine lr _ (8, [some (.ref b), some (.int (Int32.ofInt (i : Int)))], [.int 0, .int 0, .int (Int32.ofInt (i : Int)), .int 11, .ref b], M1, c9, s9) l_L_ferries_7 rfl ?_
      refine lc_own [11, Int32.ofInt (i : Int), 0, 0] _ (hv w hw) O1 (by omega) l_L_ferries_8 rfl rfl g_L_act (by decide) (by omega) (by omega) True.intro rfl rfl (fun M2 O2 F2 => ?_)
      rw [Int.add_zero] at O2
      show mw_Wp sc mw_Good d_L_ferries 24 (11, [some (.ref b), some (.int (Int32.ofInt (i : Int)))], [.int v], M2, c9 - 4, s9 - 24) Qr Qx
      refine lr _ (12, [some (.ref b), some (.int (Int32.ofInt (i : Int)))], [.int (-1), .int v], M2, c9 - 4, s9 - 24) l_L_ferries_11 rfl ?_
      refine lbF _ (v = (-1)) (21, [some (.ref b), some (.int (Int32.ofInt (i : Int)))], [], M2, c9 - 4, s9 - 24) (15, [some (.ref b), some (.int (Int32.ofInt (i : Int)))], [], M2, c9 - 4, s9 - 24) l_L_ferries_12 rfl (fun e => (hv1 hI4).mp e (by omega)) ?_
      refine lr _ (18, [some (.ref b), some (.int ((Int32.ofInt (i : Int)) + 1))], [], M2, c9 - 4, s9 - 24) l_L_ferries_15 rfl ?_
      refine lr _ (2, [some (.ref b), some (.int ((Int32.ofInt (i : Int)) + 1))], [], M2, c9 - 4, s9 - 24) l_L_ferries_18 rfl ?_
      rw [show Int32.ofInt (i : Int) + 1 = Int32.ofInt ((i + 1 : Nat) : Int) by rw [Int.natCast_add, Int32.ofInt_add]; rfl]
      exact ih (i + 1) M2 _ _ (by omega) (by omega) (by omega) (by omega) O2 (F1.trans F2)
  show mw_Wp sc mw_Good d_L_ferries 24 (0, [some (.ref b), none], [], M, 16, 96) Qr Qx
  refine lr _ (1, [some (.ref b), none], [.int 0], M, 16, 96) l_L_ferries_0 rfl ?_
  refine lr _ (2, [some (.ref b), some (.int 0)], [], M, 16, 96) l_L_ferries_1 rfl ?_
  rw [show (0 : Int32) = Int32.ofInt ((0 : Nat) : Int) from rfl]
  exact lp (g 3).toNat 0 M 16 96 (by omega) (by omega) (by omega) (by omega) hO Fr.refl
theorem t_moons {g : Int → Int} (h5 : g 5 ≤ 128) {w : of_S} (hw : w.1.1 = g) {b sb : Nat} {M : mw_Mem} {B : Int} {Qr : Option Value → mw_Mem → Prop} {Qx : Nat → mw_Mem → Prop} (hO : Off b sb M w B) (hB : B ≤ 4000000) (hkn : ∀ x, 1000000 ≤ x → M.2.2.2.2.1 x = none) (K : ∀ M', Off b sb M' w B → Fr b sb M M' → Lst M' M.2.2.2.2.2 (g 4).toNat (g 4).toNat (fun k => g (71 + k)) → Qr (some (.ref M.2.2.2.2.2)) M') : mw_Wp sc mw_Good d_L_moons 24 (0, [some (.ref b), none, none], [], M, 150, 900) Qr Qx := by
  have hI := hO.inv.1
  rw [hw] at hI
  have h4 := hI.mo
  have hmo := hI.moo
  have kd := hO.kd
  refine mw_Wp.fact (fun hM => ?_)
  have hM : M.2.2.2.2.2 ≤ 990000 := hM
  have hM1 : M.2.2.2.2.2 < 1000000 := by omega
  obtain ⟨l, hl⟩ : ∃ l, l = M.2.2.2.2.2 := ⟨_, rfl⟩
  have fb : b + 303 ≤ l ∧ b + sb < l := by omega
  have lp : ∀ (r k : Nat) (M1 : mw_Mem) (c9 s9 : Nat) (f : Nat → Int), (k : Int) ≤ g 4 → g 4 - k = r → 4 + 9 * r ≤ c9 → 24 + 58 * r ≤ s9 → Off b sb M1 w B → Fr b sb M M1 → Lst M1 l k k f → (∀ j, j < k → f j = g (71 + j)) → mw_Wp sc mw_Good d_L_moons 24 (10, [some (.ref b), some (.ref l), some (.int (Int32.ofInt (k : Int)))], [], M1, c9, s9) Qr Qx := by
    intro r
    induction r with
    | zero =>
      intro k M1 c9 s9 f hk hr hc hs O1 F1 L1 hf
      show mw_Wp sc mw_Good d_L_moons 24 (10, [some (.ref b), some (.ref l), some (.int (Int32.ofInt (k : Int)))], [], M1, c9, s9) Qr Qx
      refine lr _ (11, [some (.ref b), some (.ref l), some (.int (Int32.ofInt (k : Int)))], [.int (Int32.ofInt (k : Int))], M1, c9, s9) l_L_moons_10 rfl ?_
      refine lr _ (12, [some (.ref b), some (.ref l), some (.int (Int32.ofInt (k : Int)))], [.ref b, .int (Int32.ofInt (k : Int))], M1, c9, s9) l_L_moons_11 rfl ?_
      refine lc_call [] o_moonCount O1 (by omega) l_L_moons_12 rfl rfl g_X11_moonCount (by decide) (by omega) (by omega) rfl rfl (fun R9 h9 => Or.inl ⟨_, _, rfl, h9⟩) (of_v_nr _) (fun M2 O2 F2 => ?_)
      rw [Int.add_zero] at O2
      have L2 : Lst M2 l k k f := L1.mono F2.1 (fun x x0 x1 => F2.2.1 x x1 (by omega) (by omega))
      show mw_Wp sc mw_Good d_L_moons 24 (15, [some (.ref b), some (.ref l), some (.int (Int32.ofInt (k : Int)))], [.int (Int32.ofInt (w.1.1 4)), .int (Int32.ofInt (k : Int))], M2, c9 - 4, s9 - 24) Qr Qx
      rw [hw]
      refine lbT _ ((Int32.ofInt (g 4)) ≤ (Int32.ofInt (k : Int))) (37, [some (.ref b), some (.ref l), some (.int (Int32.ofInt (k : Int)))], [], M2, c9 - 4, s9 - 24) (18, [some (.ref b), some (.ref l), some (.int (Int32.ofInt (k : Int)))], [], M2, c9 - 4, s9 - 24) l_L_moons_15 rfl (by
        rw [nw_le ⟨by omega, by omega⟩ ⟨by omega, by omega⟩]
        omega) ?_
      refine lr _ (38, [some (.ref b), some (.ref l), some (.int (Int32.ofInt (k : Int)))], [.ref l], M2, c9 - 4, s9 - 24) l_L_moons_37 rfl ?_
      have ek : k = (g 4).toNat := by omega
      subst hl
      refine lt_ret _ (some (.ref M.2.2.2.2.2)) l_L_moons_38 rfl (K M2 O2 (F1.trans F2) ?_)
      rw [← ek]
      refine ⟨⟨L2.1.1, L2.1.2.1, fun j hj => ?_⟩, L2.2.1, L2.2.2.1, L2.2.2.2.imp id (fun z => ⟨z.1, z.2.imp (fun e y => ⟨y.1, y.2.1, y.2.2.1, fun j hj => ?_⟩)⟩)⟩
      · have := L2.1.2.2 j hj
        rw [hf j hj] at this
        exact this
      · have := y.2.2.2 j hj
        rw [hf j hj] at this
        exact this
    | succ r ih =>
      intro k M1 c9 s9 f hk hr hc hs O1 F1 L1 hf
      have mk := hmo k (by omega) (by omega)
      refine mw_Wp.fact (fun hM9 => ?_)
      have hM9 : M1.2.2.2.2.2 ≤ 990000 := hM9
      show mw_Wp sc mw_Good d_L_moons 24 (10, [some (.ref b), some (.ref l), some (.int (Int32.ofInt (k : Int)))], [], M1, c9, s9) Qr Qx
      refine lr _ (11, [some (.ref b), some (.ref l), some (.int (Int32.ofInt (k : Int)))], [.int (Int32.ofInt (k : Int))], M1, c9, s9) l_L_moons_10 rfl ?_
      refine lr _ (12, [some (.ref b), some (.ref l), some (.int (Int32.ofInt (k : Int)))], [.ref b, .int (Int32.ofInt (k : Int))], M1, c9, s9) l_L_moons_11 rfl ?_
      refine lc_call [] o_moonCount O1 (by omega) l_L_moons_12 rfl rfl g_X11_moonCount (by decide) (by omega) (by omega) rfl rfl (fun R9 h9 => Or.inl ⟨_, _, rfl, h9⟩) (of_v_nr _) (fun M2 O2 F2 => ?_)
      rw [Int.add_zero] at O2
      have L2 : Lst M2 l k k f := L1.mono F2.1 (fun x x0 x1 => F2.2.1 x x1 (by omega) (by omega))
      show mw_Wp sc mw_Good d_L_moons 24 (15, [some (.ref b), some (.ref l), some (.int (Int32.ofInt (k : Int)))], [.int (Int32.ofInt (w.1.1 4)), .int (Int32.ofInt (k : Int))], M2, c9 - 4, s9 - 24) Qr Qx
      rw [hw]
      refine lbF _ ((Int32.ofInt (g 4)) ≤ (Int32.ofInt (k : Int))) (37, [some (.ref b), some (.ref l), some (.int (Int32.ofInt (k : Int)))], [], M2, c9 - 4, s9 - 24) (18, [some (.ref b), some (.ref l), some (.int (Int32.ofInt (k : Int)))], [], M2, c9 - 4, s9 - 24) l_L_moons_15 rfl (by
        rw [nw_le ⟨by omega, by omega⟩ ⟨by omega, by omega⟩]
        omega) ?_
      refine lr _ (19, [some (.ref b), some (.ref l), some (.int (Int32.ofInt (k : Int)))], [.ref l], M2, c9 - 4, s9 - 24) l_L_moons_18 rfl ?_
      refine lr _ (20, [some (.ref b), some (.ref l), some (.int (Int32.ofInt (k : Int)))], [.ref b, .ref l], M2, c9 - 4, s9 - 24) l_L_moons_19 rfl ?_
      refine lr _ (21, [some (.ref b), some (.ref l), some (.int (Int32.ofInt (k : Int)))], [.int (Int32.ofInt (k : Int)), .ref b, .ref l], M2, c9 - 4, s9 - 24) l_L_moons_20 rfl ?_
      have ekt : (Int32.ofInt (k : Int)).toInt = k := nw_ti ⟨by omega, by omega⟩
      have hma := o_moonAt (w := w) (x := (k : Int)) (by rw [hw]; omega)
      rw [← ekt] at hma
      refine lc_call [Int32.ofInt (k : Int)] hma O2 (by omega) l_L_moons_21 rfl rfl g_X11_moonAt (by decide) (by omega) (by omega) rfl rfl (fun R9 h9 => Or.inl ⟨_, _, rfl, h9⟩) (of_v_nr _) (fun M3 O3 F3 => ?_)
      rw [Int.add_zero] at O3
      have L3 : Lst M3 l k k f := L2.mono F3.1 (fun x x0 x1 => F3.2.1 x x1 (by omega) (by omega))
      show mw_Wp sc mw_Good d_L_moons 24 (24, [some (.ref b), some (.ref l), some (.int (Int32.ofInt (k : Int)))], [.int (Int32.ofInt (w.1.1 (71 + (Int32.ofInt (k : Int)).toInt))), .ref l], M3, c9 - 4 - 4, s9 - 24 - 24) Qr Qx
      rw [ekt, hw]
      have F13 := (F1.trans F2).trans F3
      have hkn3 : ∀ x, 1000000 ≤ x → M3.2.2.2.2.1 x = none := fun x hx => F13.2.2 x hx (hkn x hx)
      refine mw_Wp.cal _ d_J6_valueOf_2dffe 0 0 0 l_L_moons_24 rfl rfl g_J6_valueOf_2dffe (by decide) (Nat.zero_le _) (Nat.zero_le _) True.intro ?_
      refine t_valueOf (by omega) (hkn3 _ (by decide)) ?_
      show mw_Wp sc mw_Good d_L_moons 24 (27, [some (.ref b), some (.ref l), some (.int (Int32.ofInt (k : Int)))], [.ref (1000628 + (g (71 + (k : Int))).toNat), .ref l], M3, c9 - 4 - 4 - 0, s9 - 24 - 24 - 0) Qr Qx
      refine mw_Wp.fact (fun hM8 => ?_)
      have hM8 : M3.2.2.2.2.2 ≤ 990000 := hM8
      refine mw_Wp.cal _ d_Jx4a65c_add_9ea2d 4 1 10 l_L_moons_27 rfl rfl g_Jx4a65c_add_9ea2d (by decide) (by omega) (by omega) (Or.inl ⟨_, _, rfl, L3.2.1.2.2⟩) ?_
      refine t_add L3 (by omega) (by omega) (v := g (71 + (k : Int))) (by omega) (by omega) hkn3 (by decide) (fun M4 L4 F4 => ?_)
      show mw_Wp sc mw_Good d_L_moons 24 (30, [some (.ref b), some (.ref l), some (.int (Int32.ofInt (k : Int)))], [.int 1], M4, c9 - 4 - 4 - 0 - 1, s9 - 24 - 24 - 0 - 10) Qr Qx
      have kd3 := O3.kd
      have O4 : Off b sb M4 w B := O3.fr F4.1 (fun x hx => F4.2.1 x (by omega))
      have F14 : Fr b sb M M4 := ⟨Nat.le_trans F13.1 F4.1, fun x a b9 c9 => (F13.2.1 x a b9 c9).trans (F4.2.1 x (by omega)), fun x a e => F4.2.2 x a (F13.2.2 x a e)⟩
      refine lr _ (31, [some (.ref b), some (.ref l), some (.int (Int32.ofInt (k : Int)))], [], M4, c9 - 4 - 4 - 0 - 1, s9 - 24 - 24 - 0 - 10) l_L_moons_30 rfl ?_
      refine lr _ (34, [some (.ref b), some (.ref l), some (.int ((Int32.ofInt (k : Int)) + 1))], [], M4, c9 - 4 - 4 - 0 - 1, s9 - 24 - 24 - 0 - 10) l_L_moons_31 rfl ?_
      refine lr _ (10, [some (.ref b), some (.ref l), some (.int ((Int32.ofInt (k : Int)) + 1))], [], M4, c9 - 4 - 4 - 0 - 1, s9 - 24 - 24 - 0 - 10) l_L_moons_34 rfl ?_
      rw [show Int32.ofInt (k : Int) + 1 = Int32.ofInt ((k + 1 : Nat) : Int) by rw [Int.natCast_add, Int32.ofInt_add]; rfl]
      refine ih (k + 1) M4 _ _ _ (by omega) (by omega) (by omega) (by omega) O4 F14 L4 (fun j hj => ?_)
      unfold f_at
      by_cases z : j = k
      · rw [if_pos z, z]
      · rw [if_neg z]
        exact hf j (by omega)
  refine lr _ (3, [some (.ref b), none, none], [.ref M.2.2.2.2.2], (mw_ncell M (16, 3)), 150 - 1, 900 - 3) l_L_moons_0 rfl ?_
  refine lr _ (4, [some (.ref b), none, none], [.ref M.2.2.2.2.2, .ref M.2.2.2.2.2], (mw_ncell M (16, 3)), 150 - 1, 900 - 3) l_L_moons_3 rfl ?_
  refine mw_Wp.cal _ d_Jx4a65c_init_da8c8 2 0 0 l_L_moons_4 rfl rfl g_Jx4a65c_init_da8c8 (by decide) (Nat.zero_le _) (Nat.zero_le _) ⟨_, rfl, fun z9 => absurd z9 (by decide)⟩ ?_
  refine t_alini (if_pos rfl) (by decide) ?_
  show mw_Wp sc mw_Good d_L_moons 24 (7, [some (.ref b), none, none], [.ref M.2.2.2.2.2], (mw_sR (mw_sI (mw_ncell M (16, 3)) M.2.2.2.2.2 0 0) M.2.2.2.2.2 1 (some 1000203)), 150 - 1 - 0, 900 - 3 - 0) Qr Qx
  have LN := Lst.new (M := M) (f := fun k => g (71 + (k : Int))) hM1
  obtain ⟨M1, hM1e⟩ : ∃ M1, M1 = (mw_sR (mw_sI (mw_ncell M (16, 3)) M.2.2.2.2.2 0 0) M.2.2.2.2.2 1 (some 1000203)) := ⟨_, rfl⟩
  rw [← hM1e] at LN ⊢
  rw [← hl] at LN ⊢
  refine lr _ (8, [some (.ref b), some (.ref l), none], [], M1, 150 - 1 - 0, 900 - 3 - 0) l_L_moons_7 rfl ?_
  refine lr _ (9, [some (.ref b), some (.ref l), none], [.int 0], M1, 150 - 1 - 0, 900 - 3 - 0) l_L_moons_8 rfl ?_
  refine lr _ (10, [some (.ref b), some (.ref l), some (.int 0)], [], M1, 150 - 1 - 0, 900 - 3 - 0) l_L_moons_9 rfl ?_
  rw [show (0 : Int32) = Int32.ofInt ((0 : Nat) : Int) from rfl]
  have O1 : Off b sb M1 w B := hO.fr LN.2.1 (fun x hx => LN.2.2.1 x (by omega))
  exact lp (g 4).toNat 0 M1 _ _ _ (by omega) (by omega) (by omega) (by omega) O1 ⟨LN.2.1, fun x a b9 c9 => LN.2.2.1 x (by omega), LN.2.2.2⟩ LN.1 (fun j hj => absurd hj (Nat.not_lt_zero _))
end
