/-! command texts: the reference reads a whole text -/
section
variable {sc : Nat × (Nat → Int32)} {D : Nat} {J L : Nat → Int → Int} {W : nw_W} {c sl : Nat} {Qr : nw_QR} {Qx : nw_QX} {g : Int → Int} {B : Int}
def sp_kl (k : Nat) : Int := match k with
  | 0 => 99
  | 1 => 104
  | 2 => 102
  | 3 => 109
  | 4 => 115
  | 5 => 98
  | 6 => 108
  | 7 => 111
  | 8 => 114
  | _ => 112
/-- what the reference keeps from k on of the command that was read at x -/
def sp_cmM (T : Int → Int) (n : Int) (J : Nat → Int → Int) (k x : Int) : Prop := J 313 k = sp_kl (sp_kd T n x).toNat ∧ ∀ j : Nat, j < sp_nd (sp_F (sp_kd T n x).toNat) → J 313 (k + 1 + j) = (sp_vs T n (sp_F (sp_kd T n x).toNat) (x, 0)).getD j 0
theorem sp_vs_1 {T : Int → Int} {n s : Int} {k : Nat} (hk : k < 10) (h0 : s < n) (h : T s = sp_c0 k) (s0 : 0 ≤ s) : sp_vs T n (sp_F k) (s, 0) = sp_vs T n ((sp_F k).drop 1) (s + 1, 0) := by
  have f := sp_F_cons k hk
  have e : sp_nx T n (sp_c0 k) s = s + 1 := by rw [sp_nx_c f.2, if_pos ⟨h0, h⟩]
  have es : sp_st T n (sp_c0 k) (s, 0) = (s + 1, 0) := by rw [sp_st_ok (by rw [e]; omega), e]
  conv => lhs; rw [f.1]
  rw [sp_vs, if_neg f.2, es]
theorem sp_nd_1 : ∀ k : Nat, k < 10 → sp_nd (sp_F k) = sp_nd ((sp_F k).drop 1) := by decide +kernel
theorem t_X12_parsesCommand {T : Int → Int} {n k s : Int} (hA : sp_at T n (s, 0) J) (hk : 0 ≤ k ∧ k < 290) (hD : 4 ≤ D) (hQ : ∀ J', sp_rdf J J' → (∀ j, j < k → J' 313 j = J 313 j) → sp_at T n (sp_rd T n s) J' → ((sp_rd T n s).2 = 0 → sp_cmM T n J' k s) → Qr none (J', L, W)) : NW sc d_X12_parsesCommand D (0, [some (.inr (.inl (some 303))), some (.inl k), none], [], (J, L, W), c, sl) Qr Qx := by
  obtain ⟨⟨h7, h8⟩, ⟨h17, h18⟩, hw, p0, p1, n60⟩ := hA
  have h17 : J 303 17 = s := h17
  have h18 : J 303 18 = 0 := h18
  have p0 : 0 ≤ s := p0
  have p1 : s ≤ n := p1
  have fbase : ∀ v, sp_rdf J (nw_u (nw_u J 303 17 (s + 1)) 313 k v) := fun v => ⟨fun y a => by
    have a1 : ¬ y = 303 := fun e => a (Or.inl e)
    have a2 : ¬ y = 313 := fun e => a (Or.inr e)
    rw [nw_uP a2, nw_uP a1], fun j a b => by rw [nw_uP (by decide), nw_uI a]⟩
  have abase : ∀ v, s < n → sp_at T n (s + 1, 0) (nw_u (nw_u J 303 17 (s + 1)) 313 k v) := fun v q => ⟨⟨by rw [nw_uP (by decide), nw_uI (by decide)]; exact h7, by rw [nw_uP (by decide), nw_uP (by decide)]; exact h8⟩, ⟨by rw [nw_uP (by decide)]; exact nw_uS, by rw [nw_uP (by decide), nw_uI (by decide)]; exact h18⟩, Or.inl rfl, by show 0 ≤ s + 1; omega, by show s + 1 ≤ n; omega, n60⟩
  have bad : ∀ v, sp_kd T n s = -1 → Qr none (nw_u (nw_u (nw_u (nw_u J 303 17 (s + 1)) 313 k v) 303 18 1) 303 17 (s + 1 - 1), L, W) := fun v z => by
    have e : sp_rd T n s = (s, 1) := if_pos z
    rw [e] at hQ
    have hf := fbase v
    refine hQ _ ⟨fun y a => ?_, fun j a b => by rw [nw_uI a, nw_uI b]; exact hf.2 j a b⟩ (fun j a => by rw [nw_uP (by decide), nw_uP (by decide), nw_uI (by omega), nw_uP (by decide)]) ⟨⟨?_, ?_⟩, ⟨?_, ?_⟩, Or.inr rfl, p0, p1, n60⟩ (fun w => absurd w (show ¬ (1 : Int) = 0 by decide))
    · have a1 : ¬ y = 303 := fun e => a (Or.inl e)
      rw [nw_uP a1, nw_uP a1]
      exact hf.1 y a
    · rw [nw_uI (by decide), nw_uI (by decide), nw_uP (by decide), nw_uI (by decide)]
      exact h7
    · rw [nw_uP (by decide), nw_uP (by decide), nw_uP (by decide), nw_uP (by decide)]
      exact h8
    · rw [nw_uS]
      show s + 1 - 1 = s
      omega
    · rw [nw_uI (by decide), nw_uS]
  have due : ∀ κ : Nat, κ < 10 → sp_kd T n s = κ → s < n → T s = sp_c0 κ → ∀ Jb J', sp_rdf J Jb → (∀ j, j < k → Jb 313 j = J 313 j) → Jb 313 k = sp_kl κ → sp_prs T n k ((sp_F κ).drop 1) (s + 1, 0) Jb J' → Qr none (J', L, W) := fun κ hκ ek q et Jb J' hf hb hkl hp => by
    have sg : sp_sg T n s = sp_c0 κ := by unfold sp_sg; rw [if_pos q]; exact et
    have f1 := sp_fo_1 (T := T) (n := n) p0 hκ (sp_c0_ne κ hκ) sg
    have e : sp_rd T n s = sp_fo T n ((sp_F κ).drop 1) (s + 1, 0) := by
      unfold sp_rd
      rw [if_neg (by omega), ek, Int.toNat_natCast]
      exact f1.2
    refine hQ J' (hf.trans hp.1) (fun j a => (hp.2.1 j (by omega)).trans (hb j a)) (by rw [e]; exact hp.2.2.1) (fun w => ?_)
    unfold sp_cmM
    rw [ek, Int.toNat_natCast]
    refine ⟨(hp.2.1 k (by omega)).trans hkl, fun j hj => ?_⟩
    rw [sp_vs_1 hκ q et p0]
    exact hp.2.2.2 j (by rw [← sp_nd_1 κ hκ]; exact hj)
  have u313 : ∀ v j, j < k → nw_u (nw_u J 303 17 (s + 1)) 313 k v 313 j = J 313 j := fun v j a => by rw [nw_uI (by omega), nw_uP (by decide)]
  have u2 : ∀ v w j, j < k → nw_u (nw_u (nw_u J 303 17 (s + 1)) 313 k v) 313 k w 313 j = J 313 j := fun v w j a => by rw [nw_uI (by omega)]; exact u313 v j a
  have us : ∀ v, nw_u (nw_u J 303 17 (s + 1)) 313 k v 313 k = v := fun v => nw_uS
  refine b_X12_parsesCommand_0 hD ?_
  rw [h7, h8, h17]
  refine ⟨fun q => ⟨by omega, by omega, by omega, bad _ ?_⟩, fun q => ⟨⟨p0, by omega⟩, by omega, by omega, ?_⟩⟩
  · have sg : sp_sg T n s = -1 := if_neg (by omega)
    unfold sp_kd
    rw [sg]
    rfl
  have sg : sp_sg T n s = T s := if_pos q
  have bad' : ∀ v, ¬ (T s = 98 ∨ T s = 99 ∨ T s = 102 ∨ T s = 108 ∨ T s = 109 ∨ T s = 112 ∨ T s = 114 ∨ T s = 115) → Qr none (nw_u (nw_u (nw_u (nw_u J 303 17 (s + 1)) 313 k v) 303 18 1) 303 17 (s + 1 - 1), L, W) := fun v z => bad v (by
    unfold sp_kd
    rw [sg]
    repeat' split
    all_goals omega)
  have kd : ∀ x y : Int, T s = x → (sp_sg T n s = x → sp_kd T n s = y) → sp_kd T n s = y := fun x y h h2 => h2 (sg.trans h)
  refine ⟨fun z => ?_, fun _ => ⟨fun z => ?_, fun _ => ⟨fun _ => ⟨by omega, bad' _ (by omega)⟩, fun _ => ⟨fun _ => ⟨by omega, bad' _ (by omega)⟩, fun _ => ⟨fun z => ?_, fun _ => ⟨fun _ => ⟨by omega, bad' _ (by omega)⟩, fun _ => ⟨fun _ => ⟨by omega, bad' _ (by omega)⟩, fun _ => ⟨fun _ => ⟨by omega, bad' _ (by omega)⟩, fun _ => ⟨fun _ => ⟨by omega, bad' _ (by omega)⟩, fun _ => ⟨fun _ => ⟨by omega, bad' _ (by omega)⟩, fun _ => ⟨fun z => ?_, fun _ => ⟨fun z => ?_, fun _ => ⟨fun _ => ⟨by omega, bad' _ (by omega)⟩, fun _ => ⟨fun _ => ⟨by omega, bad' _ (by omega)⟩, fun _ => ⟨fun z => ?_, fun _ => ⟨fun _ => ⟨by omega, bad' _ (by omega)⟩, fun _ => ⟨fun z => ?_, fun _ => ⟨fun z => ?_, fun _ => ⟨by omega, bad' _ (by omega)⟩⟩⟩⟩⟩⟩⟩⟩⟩⟩⟩⟩⟩⟩⟩⟩⟩⟩⟩
  · have ek : sp_kd T n s = ((5 : Nat) : Int) := by unfold sp_kd; rw [sg, z]; rfl
    refine t_three (sp_prs.start (k := k) (abase _ q)) (by decide) (by decide) (by decide) (by decide) (fun J1 h1 => b_X12_parsesCommand_181 hD (t_need h1 (by decide) (by decide) (fun J2 h2 => b_X12_parsesCommand_187 hD ⟨by omega, ?_⟩)))
    refine t_after (i := k + 1) h2 (Or.inl ⟨rfl, rfl⟩) (by show k + 1 = k + 1 + ((0 : Nat) : Int); omega) (by decide) (fun J3 v h3 => b_X12_parsesCommand_199 hD ⟨by omega, by omega, ?_⟩)
    exact t_after (i := k + 2) h3 (Or.inr ⟨rfl, rfl⟩) (by show k + 2 = k + 1 + ((1 : Nat) : Int); omega) (by decide) (fun J4 v h4 => b_X12_parsesCommand_212 ⟨by omega, due 5 (by decide) ek q z _ _ (fbase _) (u313 _) ((us _).trans z) h4⟩)
  · refine t_X12_parsesC (abase _ q) hk (by decide) (fun y J1 h1 => b_X12_parsesCommand_113 (due 0 (by decide) ?_ q z _ _ (fbase _) (u313 _) ((us _).trans z) h1)) (fun y J1 h1 => b_X12_parsesCommand_113 (due 1 (by decide) ?_ q z _ _ (fbase _).u (u2 _ _) nw_uS h1))
    · unfold sp_kd
      rw [sg, if_pos z, if_neg y]
      rfl
    · unfold sp_kd
      rw [sg, if_pos z, if_pos y]
      rfl
  · have ek : sp_kd T n s = ((2 : Nat) : Int) := by unfold sp_kd; rw [sg, z]; rfl
    exact t_X12_parsesFerry (abase _ q) hk (by decide) (fun J1 h1 => b_X12_parsesCommand_121 (due 2 (by decide) ek q z _ _ (fbase _) (u313 _) ((us _).trans z) h1))
  · refine t_X12_parsesL (abase _ q) hk (by decide) (fun y J1 h1 => b_X12_parsesCommand_221 (due 6 (by decide) ?_ q z _ _ (fbase _) (u313 _) ((us _).trans z) h1)) (fun y J1 h1 => b_X12_parsesCommand_221 (due 7 (by decide) ?_ q z _ _ (fbase _).u (u2 _ _) nw_uS h1))
    · unfold sp_kd
      rw [sg, z, if_neg y]
      rfl
    · unfold sp_kd
      rw [sg, z, if_pos y]
      rfl
  · have ek : sp_kd T n s = ((3 : Nat) : Int) := by unfold sp_kd; rw [sg, z]; rfl
    exact t_X12_parsesMoon (abase _ q) hk (by decide) (fun J1 h1 => b_X12_parsesCommand_129 (due 3 (by decide) ek q z _ _ (fbase _) (u313 _) ((us _).trans z) h1))
  · have ek : sp_kd T n s = ((9 : Nat) : Int) := by unfold sp_kd; rw [sg, z]; rfl
    refine t_three (sp_prs.start (k := k) (abase _ q)) (by decide) (by decide) (by decide) (by decide) (fun J1 h1 => b_X12_parsesCommand_272 hD ⟨by omega, ?_⟩)
    exact t_after (i := k + 1) h1 (Or.inr ⟨rfl, rfl⟩) (by show k + 1 = k + 1 + ((0 : Nat) : Int); omega) (by decide) (fun J4 v h4 => b_X12_parsesCommand_284 ⟨by omega, due 9 (by decide) ek q z _ _ (fbase _) (u313 _) ((us _).trans z) h4⟩)
  · have ek : sp_kd T n s = ((8 : Nat) : Int) := by unfold sp_kd; rw [sg, z]; rfl
    refine t_three (sp_prs.start (k := k) (abase _ q)) (by decide) (by decide) (by decide) (by decide) (fun J1 h1 => b_X12_parsesCommand_234 hD (t_need h1 (by decide) (by decide) (fun J2 h2 => b_X12_parsesCommand_240 hD (t_need h2 (by decide) (by decide) (fun J3 h3 => b_X12_parsesCommand_246 hD ⟨by omega, ?_⟩)))))
    exact t_after (i := k + 1) h3 (Or.inl ⟨rfl, rfl⟩) (by show k + 1 = k + 1 + ((0 : Nat) : Int); omega) (by decide) (fun J4 v h4 => b_X12_parsesCommand_258 ⟨by omega, due 8 (by decide) ek q z _ _ (fbase _) (u313 _) ((us _).trans z) h4⟩)
  · have ek : sp_kd T n s = ((4 : Nat) : Int) := by unfold sp_kd; rw [sg, z]; rfl
    refine t_three (sp_prs.start (k := k) (abase _ q)) (by decide) (by decide) (by decide) (by decide) (fun J1 h1 => b_X12_parsesCommand_142 hD ⟨by omega, ?_⟩)
    refine t_after (i := k + 1) h1 (Or.inl ⟨rfl, rfl⟩) (by show k + 1 = k + 1 + ((0 : Nat) : Int); omega) (by decide) (fun J3 v h3 => b_X12_parsesCommand_154 hD ⟨by omega, by omega, ?_⟩)
    exact t_after (i := k + 2) h3 (Or.inl ⟨rfl, rfl⟩) (by show k + 2 = k + 1 + ((1 : Nat) : Int); omega) (by decide) (fun J4 v h4 => b_X12_parsesCommand_167 ⟨by omega, due 4 (by decide) ek q z _ _ (fbase _) (u313 _) ((us _).trans z) h4⟩)
theorem t_X12_run0 {T : Int → Int} {n : Int} (hn : J 303 7 = n) (hT : J 308 = T) (n0 : 0 ≤ n ∧ n ≤ 60) (hD : 6 ≤ D)
    (hE : ¬ (sp_pl T n 10 0).2 = -1 → ∀ J', (∀ y, ¬ (y = 303 ∨ y = 313) → J' y = J y) → (∀ j, ¬ (j = 7 ∨ j = 8 ∨ j = 13 ∨ j = 17 ∨ j = 18) → J' 303 j = J 303 j) → J' 303 7 = 0 → J' 303 8 = (sp_pl T n 10 0).2 → J' 303 13 = 1 → Qr (some (.inl 0)) (J', L, W))
    (hQ : (sp_pl T n 10 0).2 = -1 → ∀ J', (∀ y, ¬ (y = 303 ∨ y = 305 ∨ y = 313) → J' y = J y) → (∀ j, ¬ (j = 7 ∨ j = 17 ∨ j = 18) → J' 303 j = J 303 j) → J' 303 7 = 0 → sp_ew (J 304) (J' 305) → (∀ i : Nat, i < (sp_pl T n 10 0).1.length → sp_cmM T n J' (5 * (i : Int)) ((sp_pl T n 10 0).1.getD i 0)) → NW sc d_X12_run D (130, [some (.inr (.inl (some 303))), some (.inl ((((sp_pl T n 10 0).1.length : Nat) : Int))), none, some (.inl 0), none], [], (J', L, W), c, sl) Qr Qx) : NW sc d_X12_run D (0, [some (.inr (.inl (some 303))), none, none, none, none], [], (J, L, W), c, sl) Qr Qx := by
  have stop : ∀ (q : Int) (e w : Int) (J2 : Nat → Int → Int), sp_at T n (e, w) J2 → (∀ y, ¬ (y = 303 ∨ y = 313) → J2 y = J y) → (∀ j, ¬ (j = 17 ∨ j = 18) → J2 303 j = J 303 j) → (¬ (w = 0 ∧ n ≤ e) → ∀ J', (∀ y, ¬ (y = 303 ∨ y = 313) → J' y = J y) → (∀ j, ¬ (j = 7 ∨ j = 8 ∨ j = 13 ∨ j = 17 ∨ j = 18) → J' 303 j = J 303 j) → J' 303 7 = 0 → J' 303 8 = e → J' 303 13 = 1 → Qr (some (.inl 0)) (J', L, W)) → ((w = 0 ∧ n ≤ e) → ∀ J', (∀ y, ¬ (y = 303 ∨ y = 305 ∨ y = 313) → J' y = J y) → (∀ j, ¬ (j = 7 ∨ j = 17 ∨ j = 18) → J' 303 j = J 303 j) → J' 303 7 = 0 → sp_ew (J 304) (J' 305) → J' 313 = J2 313 → NW sc d_X12_run D (130, [some (.inr (.inl (some 303))), some (.inl q), none, some (.inl 0), none], [], (J', L, W), c, sl) Qr Qx) → NW sc d_X12_run D (14, [some (.inr (.inl (some 303))), some (.inl q), some (.inl 0), none, none], [], (J2, L, W), c, sl) Qr Qx := by
    intro q e w J2 hA a1 a2 he ho
    obtain ⟨⟨h7, h8⟩, ⟨h17, h18⟩, hw, p0, p1, n60⟩ := hA
    have h17 : J2 303 17 = e := h17
    have h18 : J2 303 18 = w := h18
    refine b_X12_run_14 hD ⟨fun _ => ?_, fun z => absurd rfl z⟩
    rw [h17, h18, h7]
    have err : ¬ (w = 0 ∧ n ≤ e) → Qr (some (.inl 0)) (nw_u (nw_u (nw_u (nw_u J2 303 18 1) 303 7 0) 303 8 e) 303 13 1, L, W) := fun z => by
      refine he z _ (fun y a => ?_) (fun j a => ?_) ?_ ?_ nw_uS
      · have y3 : ¬ y = 303 := fun e => a (Or.inl e)
        rw [nw_uP y3, nw_uP y3, nw_uP y3, nw_uP y3]
        exact a1 y a
      · rw [nw_uI (by omega), nw_uI (by omega), nw_uI (by omega), nw_uI (by omega)]
        exact a2 j (by omega)
      · rw [nw_uI (by decide), nw_uI (by decide), nw_uS]
      · rw [nw_uI (by decide), nw_uS]
    refine ⟨fun z => err (fun y => z y.1), fun z => ⟨fun y => ?_, fun y => err (by omega)⟩⟩
    have v : ∀ x, ¬ x = 303 → nw_u (nw_u J2 303 18 0) 303 7 0 x = J2 x := fun x a => by rw [nw_uP a, nw_uP a]
    refine t_X12_begin (by decide) (fun J3 b1 b2 => b_X12_run_128 (ho ⟨z, y⟩ J3 (fun y a => ?_) (fun j a => ?_) ?_ ?_ ?_))
    · have y3 : ¬ y = 303 := fun e => a (Or.inl e)
      rw [b1 y (fun e => a (Or.inr (Or.inl e))), v y y3]
      exact a1 y (by omega)
    · rw [b1 303 (by decide), nw_uI (by omega), nw_uI (by omega)]
      exact a2 j (by omega)
    · rw [b1 303 (by decide), nw_uS]
    · rw [v 304 (by decide), a1 304 (by decide)] at b2
      exact b2
    · rw [b1 313 (by decide), v 313 (by decide)]
  have lp : ∀ (f m : Nat) (s : Int) (J1 : Nat → Int → Int), f + m = 10 → sp_at T n (s, 0) J1 → 7 * (m : Int) ≤ s → (∀ y, ¬ (y = 303 ∨ y = 313) → J1 y = J y) → (∀ j, ¬ (j = 17 ∨ j = 18) → J1 303 j = J 303 j) → (¬ (sp_pl T n f s).2 = -1 → ∀ J', (∀ y, ¬ (y = 303 ∨ y = 313) → J' y = J y) → (∀ j, ¬ (j = 7 ∨ j = 8 ∨ j = 13 ∨ j = 17 ∨ j = 18) → J' 303 j = J 303 j) → J' 303 7 = 0 → J' 303 8 = (sp_pl T n f s).2 → J' 303 13 = 1 → Qr (some (.inl 0)) (J', L, W)) →
      ((sp_pl T n f s).2 = -1 → ∀ J', (∀ y, ¬ (y = 303 ∨ y = 305 ∨ y = 313) → J' y = J y) → (∀ j, ¬ (j = 7 ∨ j = 17 ∨ j = 18) → J' 303 j = J 303 j) → J' 303 7 = 0 → sp_ew (J 304) (J' 305) → (∀ j, j < 5 * (m : Int) → J' 313 j = J1 313 j) → (∀ i : Nat, i < (sp_pl T n f s).1.length → sp_cmM T n J' (5 * ((m + i : Nat) : Int)) ((sp_pl T n f s).1.getD i 0)) → NW sc d_X12_run D (130, [some (.inr (.inl (some 303))), some (.inl (((m + (sp_pl T n f s).1.length : Nat) : Int))), none, some (.inl 0), none], [], (J', L, W), c, sl) Qr Qx) → NW sc d_X12_run D (14, [some (.inr (.inl (some 303))), some (.inl ((m : Int))), some (.inl 1), none, none], [], (J1, L, W), c, sl) Qr Qx := by
    intro f
    induction f with
    | zero =>
      intro m s J1 hf hA
      have := hA.2.2.2.2
      have : s ≤ n := this.1
      omega
    | succ f ih =>
      intro m s J1 hf hA h7m a1 a2 he ho
      have s0 : 0 ≤ s := hA.2.2.2.1
      have s1 : s ≤ n := hA.2.2.2.2.1
      have rl := sp_rd_le (T := T) (n := n) (s := s) s0 s1
      have kr := sp_kd_rng T n s
      rw [sp_pl] at he ho
      refine b_X12_run_14 hD ⟨fun z => absurd z (by decide), fun _ => ⟨by omega, ?_⟩⟩
      refine t_X12_parsesCommand hA (by omega) (by decide) (fun J2 r2 k2 at2 cm => b_X12_run_25 hD ⟨by omega, ?_⟩)
      have hA2 := at2
      obtain ⟨⟨h7, h8⟩, ⟨h17, h18⟩, hw, p0, p1, n60⟩ := at2
      have b1 : ∀ y, ¬ (y = 303 ∨ y = 313) → J2 y = J y := fun y a => (r2.1 y a).trans (a1 y a)
      have b2 : ∀ j, ¬ (j = 17 ∨ j = 18) → J2 303 j = J 303 j := fun j a => (r2.2 j (by omega) (by omega)).trans (a2 j a)
      rw [h17, h18, h7, h8]
      have go : ∀ x, sp_at T n (x, (sp_rd T n s).2) J2 → sp_at T n (x, (sp_rd T n s).2) (nw_u J2 303 17 (x + 0)) ∧ (∀ y, ¬ (y = 303 ∨ y = 313) → nw_u J2 303 17 (x + 0) y = J y) ∧ (∀ j, ¬ (j = 17 ∨ j = 18) → nw_u J2 303 17 (x + 0) 303 j = J 303 j) := fun x h => by
        refine ⟨⟨⟨by rw [nw_uI (by decide)]; exact h7, by rw [nw_uP (by decide)]; exact h8⟩, ⟨by rw [nw_uS]; show x + 0 = x; omega, by rw [nw_uI (by decide)]; exact h18⟩, h.2.2⟩, fun y a => ?_, fun j a => by rw [nw_uI (by omega)]; exact b2 j a⟩
        have y3 : ¬ y = 303 := fun e => a (Or.inl e)
        rw [nw_uP y3]
        exact b1 y a
      have g0 := go _ hA2
      have u313 : ∀ v, nw_u J2 303 17 v 313 = J2 313 := fun v => nw_uP (by decide)
      have em : (m : Int) + 1 = ((m + 1 : Nat) : Int) := by omega
      refine ⟨fun z => ⟨by omega, ?_⟩, fun z => ?_⟩
      · have w1 : (sp_rd T n s).2 = 1 := by omega
        rw [if_pos w1] at he ho
        exact stop _ (sp_rd T n s).1 (sp_rd T n s).2 _ g0.1 g0.2.1 g0.2.2 (fun _ => he (by show ¬ (sp_rd T n s).1 = -1; omega)) (fun y => absurd y.1 z)
      · have cm' := cm z
        have key : ∀ J' : Nat → Int → Int, (∀ j, j < 5 * ((m + 1 : Nat) : Int) → J' 313 j = J2 313 j) → sp_cmM T n J' (5 * ((m : Nat) : Int)) s := fun J' a => by
          refine ⟨by rw [a _ (by omega)]; exact cm'.1, fun j hj => ?_⟩
          have := (sp_F_ok (sp_kd T n s).toNat (by omega)).2.2.2.1
          rw [a _ (by omega)]
          exact cm'.2 j hj
        rw [if_neg (by omega)] at he ho
        have one : sp_pl T n (f + 1) s = ([s], -1) → n ≤ (sp_rd T n s).1 → True := fun _ _ => trivial
        refine ⟨fun y => ⟨by omega, ?_⟩, fun y => ⟨by omega, fun v => ⟨by omega, ?_⟩, fun v => ⟨by omega, ?_⟩⟩⟩
        · rw [if_neg (by omega)] at he ho
          refine stop _ _ _ _ g0.1 g0.2.1 g0.2.2 (fun w => absurd ⟨z, y⟩ w) (fun _ J' c1 c2 c3 c4 c5 => ?_)
          rw [em]
          refine ho rfl J' c1 c2 c3 c4 (fun j hj => by rw [c5, u313, k2 j (by omega)]) (fun i hi => ?_)
          have i0 : i = 0 := by
            have : i < 1 := hi
            omega
          rw [i0, Nat.add_zero]
          exact key J' (fun j _ => by rw [c5, u313])
        · rw [if_pos y, if_neg v] at he ho
          exact stop _ (sp_rd T n s).1 (sp_rd T n s).2 _ g0.1 g0.2.1 g0.2.2 (fun _ => he (by show ¬ (sp_rd T n s).1 = -1; omega)) (fun w => by omega)
        · rw [if_pos y, if_pos v] at he ho
          have rl2 := rl.2.2.2 z
          rw [em]
          refine ih (m + 1) ((sp_rd T n s).1 + 1) _ (by omega) ⟨⟨by rw [nw_uI (by decide)]; exact h7, by rw [nw_uP (by decide)]; exact h8⟩, ⟨nw_uS, by rw [nw_uI (by decide), h18]; exact z⟩, Or.inl rfl, by show 0 ≤ (sp_rd T n s).1 + 1; omega, by show (sp_rd T n s).1 + 1 ≤ n; omega, n60⟩ (by omega) (fun y a => ?_) (fun j a => by rw [nw_uI (by omega)]; exact b2 j a) he (fun w J' c1 c2 c3 c4 c5 c6 => ?_)
          · have y3 : ¬ y = 303 := fun e => a (Or.inl e)
            rw [nw_uP y3]
            exact b1 y a
          · rw [u313] at c5
            have h := ho w J' c1 c2 c3 c4 (fun j hj => by rw [c5 j (by omega), k2 j (by omega)]) (fun i hi => ?_)
            · rw [List.length_cons] at h
              rw [show m + 1 + (sp_pl T n f ((sp_rd T n s).1 + 1)).1.length = m + ((sp_pl T n f ((sp_rd T n s).1 + 1)).1.length + 1) by omega]
              exact h
            · cases i with
              | zero =>
                rw [List.getD_cons_zero, Nat.add_zero]
                exact key J' c5
              | succ i =>
                rw [List.getD_cons_succ, show m + (i + 1) = m + 1 + i by omega]
                exact c6 i (by rw [List.length_cons] at hi; omega)
  refine b_X12_run_0 ?_
  have u : ∀ y, ¬ y = 303 → nw_u (nw_u J 303 17 0) 303 18 0 y = J y := fun y a => by rw [nw_uP a, nw_uP a]
  have uj : ∀ j, ¬ (j = 17 ∨ j = 18) → nw_u (nw_u J 303 17 0) 303 18 0 303 j = J 303 j := fun j a => by rw [nw_uI (by omega), nw_uI (by omega)]
  refine lp 10 0 0 _ rfl ⟨⟨by rw [uj 7 (by decide)]; exact hn, by rw [u 308 (by decide)]; exact hT⟩, ⟨by rw [nw_uI (by decide), nw_uS], nw_uS⟩, Or.inl rfl, Int.le_refl _, n0.1, n0.2⟩ (by omega) (fun y a => u y (fun e => a (Or.inl e))) uj hE (fun z J' c1 c2 c3 c4 c5 c6 => ?_)
  rw [Nat.zero_add]
  refine hQ z J' c1 c2 c3 c4 (fun i hi => ?_)
  have := c6 i hi
  rw [Nat.zero_add] at this
  exact this
end
