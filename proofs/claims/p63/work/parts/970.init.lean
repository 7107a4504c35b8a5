/-! the office that the constructor makes -/
def kx_tb : List ((Nat × Nat) × mw_CD × Nat × Nat) := [((4, 1), d_X0_init, 53, 632), ((5, 1), d_X1_init, 3, 110), ((6, 1), d_X2_init, 2, 42), ((7, 1), d_X3_init, 23, 290), ((8, 1), d_X4_init, 8, 45), ((9, 1), d_X5_init, 193, 1560), ((10, 1), d_X6_init, 28, 429), ((11, 1), d_X7_init, 7, 70), ((12, 1), d_X8_init, 23, 188), ((13, 1), d_X9_init, 5, 46), ((14, 1), d_X10_init, 16, 222), ((15, 1), d_X11_init, 302, 2723), ((1, 1), d_J4_init_da8c8, 1, 16), ((1, 2), d_J5_init_d00df, 1, 16)]
theorem kx_tb_good : ∀ e ∈ kx_tb, mw_Good e.2.1 := List.forall_mem_cons.mpr ⟨g_X0_init, List.forall_mem_cons.mpr ⟨g_X1_init, List.forall_mem_cons.mpr ⟨g_X2_init, List.forall_mem_cons.mpr ⟨g_X3_init, List.forall_mem_cons.mpr ⟨g_X4_init, List.forall_mem_cons.mpr ⟨g_X5_init, List.forall_mem_cons.mpr ⟨g_X6_init, List.forall_mem_cons.mpr ⟨g_X7_init, List.forall_mem_cons.mpr ⟨g_X8_init, List.forall_mem_cons.mpr ⟨g_X9_init, List.forall_mem_cons.mpr ⟨g_X10_init, List.forall_mem_cons.mpr ⟨g_X11_init, List.forall_mem_cons.mpr ⟨g_J4_init_da8c8, List.forall_mem_cons.mpr ⟨g_J5_init_d00df, fun _ h => absurd h List.not_mem_nil⟩⟩⟩⟩⟩⟩⟩⟩⟩⟩⟩⟩⟩⟩
def kx_hp (k : Nat) : Nat := 105 + 24 * k
/-- the few ints that aren't 0 -/
def kx_z (a k : Nat) : Bool := decide ((a = 0 ∧ (k = 11 ∨ k = 12)) ∨ (a = 1 ∧ k = 0))
def kx_J : Nat → Int → Int := fun a k => if (a = 0 ∧ (k = 11 ∨ k = 12)) ∨ (a = 1 ∧ k = 0) then -1 else 0
def kx_L : Nat → Int → Int := fun _ _ => 0
def kx_W : nw_W := (fun _ _ => 0, kx_hp, 302, fun _ => none, 303)
def kx_f0 : kx_F := (0, [some (.inr 0)], [], ([], [], [(0, 15, 13)], 1), 302, 2723)
def kx_cI (IL : List (Nat × Option (Nat × Int32))) : Bool := (IL.all fun q => match q.2 with
  | none => true
  | some p => decide (p.2 = 0) || (decide (p.2 = -1) && kx_z q.1 p.1)) && decide (kx_iF IL 0 11 = -1 ∧ kx_iF IL 0 12 = -1 ∧ kx_iF IL 1 0 = -1)
def kx_cR1 (RL : List (Nat × Option (Nat × Option Nat))) : Bool := RL.all fun q => match q.2 with
  | none => true
  | some p => decide (mw_rm0 kx_hp 302 q.1 p.1 = p.2)
def kx_cR2 (RL : List (Nat × Option (Nat × Option Nat))) : Bool := (List.range 320).all fun a => (List.range 20).all fun k => match mw_rm0 kx_hp 302 a k with
  | none => true
  | some b => decide (kx_rF RL a k = some b)
def kx_cK : List (Nat × Nat × Nat) → Nat → Bool
  | [], n => Nat.beq n 0
  | q :: r, n + 1 => decide (q.1 = n ∧ mw_kd0 n = some q.2) && kx_cK r n
  | _ :: _, 0 => false
def kx_ok (g : Option kx_F) : Bool := match g with
  | none => false
  | some g => kx_isr d_X11_init g && decide (g.2.2.2.1.2.2.2 = 303) && kx_cK g.2.2.2.1.2.2.1 303 && kx_cI g.2.2.2.1.1 && kx_cR1 g.2.2.2.1.2.1 && kx_cR2 g.2.2.2.1.2.1
set_option maxRecDepth 100000 in
theorem kx_first : kx_ok (kx_run kx_tb 1000000 220 d_X11_init kx_f0) = true := by decide +kernel
theorem kx_cK_ok : ∀ (KL : List (Nat × Nat × Nat)) (n : Nat), kx_cK KL n = true → ∀ a, kx_kF KL a = if a < n then mw_kd0 a else none
  | [], n, h, a => by
    unfold kx_cK at h
    have := Nat.eq_of_beq_eq_true h
    rw [if_neg (by omega)]
    rfl
  | q :: r, 0, h, a => by cases h
  | q :: r, n + 1, h, a => by
    unfold kx_cK at h
    rw [Bool.and_eq_true, decide_eq_true_eq] at h
    have ih := kx_cK_ok r n h.2 a
    unfold kx_kF mw_k
    by_cases e : a = q.1
    · rw [if_pos e, if_pos (by omega), e, h.1.1, h.1.2]
    · rw [if_neg e, ih]
      by_cases e2 : a < n
      · rw [if_pos e2, if_pos (by omega)]
      · rw [if_neg e2, if_neg (by omega)]
theorem kx_cI_ok1 : ∀ (IL : List (Nat × Option (Nat × Int32))), (IL.all fun q => match q.2 with
  | none => true
  | some p => decide (p.2 = 0) || (decide (p.2 = -1) && kx_z q.1 p.1)) = true → ∀ a k, kx_z a k = false → kx_iF IL a k = 0
  | [], _, a, k, _ => rfl
  | (b, none) :: r, h, a, k, hz => by
    rw [List.all_cons, Bool.and_eq_true] at h
    have ih := kx_cI_ok1 r h.2 a k hz
    unfold kx_iF mw_z
    split
    · rfl
    · exact ih
  | (b, some p) :: r, h, a, k, hz => by
    rw [List.all_cons, Bool.and_eq_true] at h
    have ih := kx_cI_ok1 r h.2 a k hz
    have h1 := h.1
    dsimp only at h1
    unfold kx_iF mw_u
    split
    · rename_i e
      split
      · rename_i e2
        subst e e2
        rw [hz, Bool.and_false, Bool.or_false, decide_eq_true_eq] at h1
        exact h1
      · exact ih
    · exact ih
theorem kx_cI_ok {IL : List (Nat × Option (Nat × Int32))} (h : kx_cI IL = true) : kx_iF IL = fun a (k : Nat) => Int32.ofInt (kx_J a k) := by
  unfold kx_cI at h
  rw [Bool.and_eq_true, decide_eq_true_eq] at h
  obtain ⟨h1, c1, c2, c5⟩ := h
  funext a k
  by_cases z : (a = 0 ∧ (k = 11 ∨ k = 12)) ∨ (a = 1 ∧ k = 0)
  · rcases z with ⟨rfl, rfl | rfl⟩ | ⟨rfl, rfl⟩
    · rw [c1]
      rfl
    · rw [c2]
      rfl
    · rw [c5]
      rfl
  · have hz : kx_z a k = false := decide_eq_false z
    rw [kx_cI_ok1 IL h1 a k hz]
    unfold kx_J
    rw [if_neg (by omega)]
    rfl
theorem kx_cR_ok1 : ∀ (RL : List (Nat × Option (Nat × Option Nat))), kx_cR1 RL = true → ∀ a k, kx_rF RL a k = none ∨ kx_rF RL a k = mw_rm0 kx_hp 302 a k
  | [], _, a, k => Or.inl rfl
  | (b, none) :: r, h, a, k => by
    unfold kx_cR1 at h
    rw [List.all_cons, Bool.and_eq_true] at h
    have ih := kx_cR_ok1 r h.2 a k
    unfold kx_rF mw_z
    split
    · exact Or.inl rfl
    · exact ih
  | (b, some p) :: r, h, a, k => by
    unfold kx_cR1 at h
    rw [List.all_cons, Bool.and_eq_true] at h
    have ih := kx_cR_ok1 r h.2 a k
    have h1 := h.1
    dsimp only at h1
    rw [decide_eq_true_eq] at h1
    unfold kx_rF mw_u
    split
    · rename_i e
      split
      · rename_i e2
        subst e e2
        exact Or.inr h1.symm
      · exact ih
    · exact ih
theorem kx_rml : (mw_rml.all fun l => l.all fun r => decide (r.length ≤ 20)) = true := by decide +kernel
theorem kx_rml2 : mw_rml.length = 19 := by decide +kernel
theorem kx_rt_bd {a k b : Nat} (h : mw_rt0 a k = some b) : a < 320 ∧ k < 20 := by
  unfold mw_rt0 at h
  split at h
  · rename_i l hl
    have h1 := (List.getElem?_eq_some_iff.mp hl).1
    rw [kx_rml2] at h1
    split at h
    · rename_i r hr
      split at h
      · rename_i q hq
        have h2 := (List.getElem?_eq_some_iff.mp hq).1
        have h3 := List.all_eq_true.mp kx_rml l (List.mem_of_getElem? hl)
        have h4 := of_decide_eq_true (List.all_eq_true.mp h3 r (List.mem_of_getElem? hr))
        exact ⟨by omega, by omega⟩
      · cases h
    · cases h
  · cases h
theorem kx_cR_ok {RL : List (Nat × Option (Nat × Option Nat))} (h1 : kx_cR1 RL = true) (h2 : kx_cR2 RL = true) : kx_rF RL = mw_rm0 kx_hp 302 := by
  funext a k
  cases e : mw_rm0 kx_hp 302 a k with
  | none =>
    rcases kx_cR_ok1 RL h1 a k with h | h
    · exact h
    · rw [h, e]
  | some b =>
    have hb : a < 320 ∧ k < 20 := by
      have e0 := e
      unfold mw_rm0 at e0
      split at e0
      · split at e0
        · omega
        · cases e0
      · split at e0
        · split at e0
          · omega
          · cases e0
        · exact kx_rt_bd e0
    unfold kx_cR2 at h2
    have h3 := List.all_eq_true.mp h2 a (List.mem_range.mpr hb.1)
    have h4 := List.all_eq_true.mp h3 k (List.mem_range.mpr hb.2)
    rw [e] at h4
    exact of_decide_eq_true h4
theorem kx_J0 {x : Nat} {k : Int} (h : ¬ x = 0 ∧ ¬ x = 1) : kx_J x k = 0 := by
  unfold kx_J
  rw [if_neg (by omega)]
theorem kx_Inv {g : Int → Int} (hg : ∀ s, g s = 0) : Inv g 0 := by
  have h0 := hg 0
  have h1 := hg 1
  have h2 := hg 2
  have h3 := hg 3
  have h4 := hg 4
  have h5 := hg 5
  have h6 := hg 6
  have h7 := hg 7
  have h8 := hg 8
  have h9 := hg 9
  exact ⟨by omega, by omega, by omega, by omega, by omega, by omega, by omega, by omega, by omega, by omega, by omega, fun i a b => absurd b (by omega), fun i a b => absurd b (by omega), fun i j a b c => absurd c (by omega), fun i a b => absurd b (by omega), fun i a b => absurd b (by omega), fun i a b => absurd b (by omega), fun f _ _ => hg _⟩
theorem kx_RC {J L : Nat → Int → Int} {g : Int → Int} (hJ : ∀ x k, 2 ≤ x → x ≤ 25 → J x k = 0) (hL : ∀ x k, L x k = 0) (hg : ∀ s, g s = 0) : RC J L g := by
  have h1 := hg 1
  have h2 := hg 2
  have h3 := hg 3
  have h4 := hg 4
  have h8 := hg 8
  refine ⟨⟨(hJ 2 3 (by omega) (by omega)).trans (hg 0).symm, (hJ 2 4 (by omega) (by omega)).trans (hg 6).symm, ?_⟩, ⟨(hJ 3 0 (by omega) (by omega)).trans (hg 1).symm, (hJ 3 1 (by omega) (by omega)).trans (hg 2).symm, fun i a b => absurd b (by omega), fun i a b => absurd b (by omega)⟩, ⟨(hJ 9 0 (by omega) (by omega)).trans (hg 3).symm, fun i a b => absurd b (by omega)⟩, ⟨(hJ 9 6 (by omega) (by omega)).trans (hg 8).symm, (hJ 9 7 (by omega) (by omega)).trans (hg 9).symm, fun i a _ b => absurd b (by omega)⟩, ⟨(hJ 18 0 (by omega) (by omega)).trans (hg 4).symm, (hJ 18 1 (by omega) (by omega)).trans (hg 5).symm, fun i a b => absurd b (by omega)⟩⟩
  rw [hL, hg 6, hg 7]
  rfl
theorem kx_sp_ok {a : Nat} {g : Int → Int} (ha : 2 ≤ a ∧ a ≤ 273) (hg : ∀ s, g s = 0) : sp_ok a kx_J kx_L g 0 := by
  have h3 := hg 3
  exact ⟨kx_RC (fun x k x0 x1 => kx_J0 (by omega)) (fun _ _ => rfl) hg, kx_Inv hg, fun f a b => absurd b (by omega)⟩
/-- a new office -/
def of_0 : of_S := ((fun _ => 0, 0, fun _ _ => 0, 0, fun _ => 0), (-1, -1, -1), (0, fun _ => 0), (0, fun _ => 0))
theorem kx_P : of_P kx_J kx_L kx_W of_0 0 := by
  refine ⟨⟨kx_sp_ok (by omega) (fun _ => rfl), ⟨⟨fun k hk => ?_, fun i j hi hj e => ?_⟩, rfl, Int.le_refl _, by decide⟩, fun k hk => ?_, rfl, fun h => absurd rfl h⟩, ⟨rfl, rfl, rfl⟩, ⟨⟨rfl, Int.le_refl _, by decide⟩, ?_⟩, ⟨16, ⟨rfl, rfl, Int.le_refl _, by decide⟩, Or.inl rfl, ⟨Or.inl rfl, by decide⟩, by decide, ⟨by decide, by decide +kernel⟩, fun k a b => ?_, fun k _ _ => ?_⟩, fun k a b => ?_⟩
  · have e : kx_W.2.1 k = 105 + 24 * k := rfl
    rw [e]
    refine ⟨?_, by omega⟩
    unfold nw_st
    exact decide_eq_true (by omega)
  · have e1 : kx_W.2.1 i = 105 + 24 * i := rfl
    have e2 : kx_W.2.1 j = 105 + 24 * j := rfl
    rw [e1, e2] at e
    omega
  · have hk : (k : Int) < 0 := hk
    omega
  · funext k
    exact kx_J0 (by omega)
  · have b : k < 0 := b
    omega
  · have e : kx_J 302 k = 0 := kx_J0 (by omega)
    show -128 ≤ kx_J 302 k ∧ kx_J 302 k < 128
    rw [e]
    omega
  · have b : k < 0 := b
    omega
theorem kx_okM : nw_okM (kx_J, kx_L, kx_W) := by
  refine ⟨fun a k => ?_, fun a k => ⟨by show (-9223372036854775808 : Int) ≤ 0; decide, by show (0 : Int) < 9223372036854775808; decide⟩⟩
  show nw_in (kx_J a k)
  unfold kx_J
  split <;> exact ⟨by decide, by decide⟩
section
variable {sc : Nat × (Nat → Int32)} {cd : mw_CD} {d pc c sl : Nat} {ls : List (Option Value)} {st st' : List Value} {M : mw_Mem} {Qr : Option Value → mw_Mem → Prop} {Qx : Nat → mw_Mem → Prop}
theorem t_init (h : Qr none (nw_m (kx_J, kx_L, kx_W))) : mw_Wp sc mw_Good d_X11_init 230 (kx_f kx_f0) Qr Qx := by
  have k := kx_first
  unfold kx_ok at k
  split at k
  · cases k
  · rename_i g hg
    simp only [Bool.and_eq_true, decide_eq_true_eq] at k
    obtain ⟨⟨⟨⟨⟨h1, h4⟩, hK⟩, hI⟩, hR1⟩, hR2⟩ := k
    refine kx_run_ok kx_tb_good 220 1000000 d_X11_init kx_f0 g 230 Qr Qx (by decide) hg (kx_ret_ok h1 ?_)
    have e : kx_m g.2.2.2.1 = nw_m (kx_J, kx_L, kx_W) := by
      obtain ⟨pc, ls, st, ⟨IL, RL, KL, n⟩, c, sl⟩ := g
      dsimp only at h1 h4 hK hI hR1 hR2 ⊢
      subst h4
      have eK : kx_kF KL = mw_kdx (fun _ => none) := by
        funext a
        exact kx_cK_ok KL 303 hK a
      show (kx_iF IL, (fun _ _ => 0), (fun _ _ => 0), kx_rF RL, kx_kF KL, 303) = _
      rw [kx_cI_ok hI, kx_cR_ok hR1 hR2, eK]
      rfl
    rw [e]
    exact h
theorem lc_init {q : mw_I} (hM : M.2.2.2.2.2 ≤ 990000) (h1 : mw_lk cd pc = some q) (hb : mw_ckX q d_X11_init st = true) (h4 : q.2.2.2.2.1 = d_X11_init.1) (hl : q.2.1 = 3) (hd : 231 ≤ d) (h7 : 302 ≤ c) (h8 : 2723 ≤ sl) (hA : (st.take q.2.2.1.1).reverse = [.ref M.2.2.2.2.2]) (hst : st.drop q.2.2.1.1 = st') (hr : ∀ (R : mw_Mem), R.2.2.2.2.1 M.2.2.2.2.2 = some (15, 13) → mw_recv q st R)
    (K : ∀ M', Off M.2.2.2.2.2 302 M' of_0 0 → M.2.2.2.2.2 ≤ M'.2.2.2.2.2 → (∀ x, x < M.2.2.2.2.2 → hq M M' x) → KN M M' → mw_Wp sc mw_Good cd d (pc + 3, ls, st', M', c - 302, sl - 2723) Qr Qx) : mw_Wp sc mw_Good cd d (pc, ls, st, mw_ncell M (15, 13), c, sl) Qr Qx := by
  subst hst
  obtain ⟨b, hbe⟩ : ∃ b, b = M.2.2.2.2.2 := ⟨_, rfl⟩
  rw [← hbe] at hM hA hr K
  have kd : (mw_ncell M (15, 13)).2.2.2.2.1 b = some (15, 13) := by
    show mw_k M.2.2.2.2.1 M.2.2.2.2.2 (some (15, 13)) b = _
    unfold mw_k
    rw [if_pos hbe]
  have kn : (mw_ncell M (15, 13)).2.2.2.2.2 = b + 1 := by
    rw [hbe]
    rfl
  have sub : mw_sub b (kx_m ([], [], [(0, 15, 13)], 1)) (mw_ncell M (15, 13)) := by
    refine ⟨by rw [kn]; show b + 1 = 1 + b; omega, fun a q' ha => ?_⟩
    have ha : (if a = 0 then some ((15, 13) : Nat × Nat) else none) = some q' := ha
    by_cases z : a = 0
    · rw [if_pos z] at ha
      obtain rfl := Option.some.inj ha
      subst z
      rw [Nat.zero_add]
      refine ⟨kd, by omega, ?_, ?_, ?_, fun k => ?_⟩
      · funext k
        show mw_z M.1 M.2.2.2.2.2 0 b k = 0
        unfold mw_z
        rw [if_pos hbe]
      · funext k
        show mw_z M.2.1 M.2.2.2.2.2 0 b k = 0
        unfold mw_z
        rw [if_pos hbe]
      · funext k
        show mw_z M.2.2.1 M.2.2.2.2.2 0 b k = 0
        unfold mw_z
        rw [if_pos hbe]
      · show mw_z M.2.2.2.1 M.2.2.2.2.2 none b k = none
        unfold mw_z
        rw [if_pos hbe]
    · rw [if_neg z] at ha
      cases ha
  refine mw_Wp.calX q d_X11_init 230 302 2723 b (kx_m ([], [], [(0, 15, 13)], 1)) [.ref 0] h1 hb h4 g_X11_init (by omega) h7 h8 (hr _ kd) ?_ sub ?_
  · rw [hA]
    show [Value.ref b] = [Value.ref (mw_up b 0)]
    unfold mw_up
    rw [if_pos (by decide), Nat.zero_add, if_pos (by omega)]
  · refine t_init (Qr := fun v N9 => mw_Wp sc mw_Good cd d (pc + q.2.1, ls, (v.map (mw_upV b)).toList ++ st.drop q.2.2.1.1, mw_join b (mw_ncell M (15, 13)) (kx_m ([], [], [(0, 15, 13)], 1)) N9, c - 302, sl - 2723) Qr Qx) ?_
    rw [hl]
    refine K _ ⟨kx_J, kx_L, kx_W, kx_P, kx_okM, ⟨?_, fun a q' ha => ?_⟩, rfl, fun a q' _ e => by cases e⟩ ?_ (fun x hx => ?_) (fun x hx e => ?_)
    · rfl
    · have ha' : (if a < 303 then mw_kd0 a else none) = some q' := ha
      have a303 : a < 303 := by
        by_cases z : a < 303
        · exact z
        · rw [if_neg z] at ha'
          cases ha'
      have dm : mw_dom b (mw_ncell M (15, 13)) (kx_m ([], [], [(0, 15, 13)], 1)) (a + b) = true := by
        unfold mw_dom
        rw [Nat.add_sub_cancel, kn]
        by_cases z : a = 0
        · subst z
          simp [kx_m, kx_kF, mw_k]
        · have : b + 1 ≤ a + b := by omega
          simp [this]
      refine ⟨?_, by omega, ?_, ?_, ?_, fun k => ?_⟩
      · show (if mw_dom b (mw_ncell M (15, 13)) (kx_m ([], [], [(0, 15, 13)], 1)) (a + b) = true then (if a + b < 1000000 then (nw_m (kx_J, kx_L, kx_W)).2.2.2.2.1 (a + b - b) else none) else _) = _
        rw [if_pos dm, if_pos (by omega), Nat.add_sub_cancel]
        exact ha
      · show (if mw_dom b (mw_ncell M (15, 13)) (kx_m ([], [], [(0, 15, 13)], 1)) (a + b) = true then _ else _) = _
        rw [if_pos dm, Nat.add_sub_cancel]
      · show (if mw_dom b (mw_ncell M (15, 13)) (kx_m ([], [], [(0, 15, 13)], 1)) (a + b) = true then _ else _) = _
        rw [if_pos dm, Nat.add_sub_cancel]
      · show (if mw_dom b (mw_ncell M (15, 13)) (kx_m ([], [], [(0, 15, 13)], 1)) (a + b) = true then _ else _) = _
        rw [if_pos dm, Nat.add_sub_cancel]
      · show (if mw_dom b (mw_ncell M (15, 13)) (kx_m ([], [], [(0, 15, 13)], 1)) (a + b) = true then _ else _) = _
        rw [if_pos dm, Nat.add_sub_cancel]
    · show b ≤ 303 + b
      omega
    · have nd : ¬ mw_dom b (mw_ncell M (15, 13)) (kx_m ([], [], [(0, 15, 13)], 1)) x = true := by
        unfold mw_dom
        intro e
        simp only [Bool.and_eq_true, decide_eq_true_eq] at e
        omega
      have ne : ¬ x = M.2.2.2.2.2 := by omega
      refine ⟨?_, ?_, ?_, ?_, ?_⟩
      · show (if mw_dom b (mw_ncell M (15, 13)) (kx_m ([], [], [(0, 15, 13)], 1)) x = true then _ else mw_z M.1 M.2.2.2.2.2 0 x) = _
        rw [if_neg nd]
        funext k
        exact if_neg ne
      · show (if mw_dom b (mw_ncell M (15, 13)) (kx_m ([], [], [(0, 15, 13)], 1)) x = true then _ else mw_z M.2.1 M.2.2.2.2.2 0 x) = _
        rw [if_neg nd]
        funext k
        exact if_neg ne
      · show (if mw_dom b (mw_ncell M (15, 13)) (kx_m ([], [], [(0, 15, 13)], 1)) x = true then _ else mw_z M.2.2.1 M.2.2.2.2.2 0 x) = _
        rw [if_neg nd]
        funext k
        exact if_neg ne
      · funext k
        show (if mw_dom b (mw_ncell M (15, 13)) (kx_m ([], [], [(0, 15, 13)], 1)) x = true then _ else mw_z M.2.2.2.1 M.2.2.2.2.2 none x k) = _
        rw [if_neg nd]
        exact if_neg ne
      · show (if mw_dom b (mw_ncell M (15, 13)) (kx_m ([], [], [(0, 15, 13)], 1)) x = true then _ else mw_k M.2.2.2.2.1 M.2.2.2.2.2 (some (15, 13)) x) = _
        rw [if_neg nd]
        exact if_neg ne
    · show (if mw_dom b (mw_ncell M (15, 13)) (kx_m ([], [], [(0, 15, 13)], 1)) x = true then (if x < 1000000 then _ else none) else mw_k M.2.2.2.2.1 M.2.2.2.2.2 (some (15, 13)) x) = none
      split
      · rw [if_neg (by omega)]
      · unfold mw_k
        rw [if_neg (by omega)]
        exact e
end
