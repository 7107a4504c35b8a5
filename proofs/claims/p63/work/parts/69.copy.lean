/-! states copied -/
section
variable {sc : Nat × (Nat → Int32)} {D : Nat} {J L : Nat → Int → Int} {W : nw_W} {c sl : Nat} {Qr : nw_QR} {Qx : nw_QX} {g : Int → Int} {B : Int}
theorem nw_cpI {J : Nat → Int → Int} {a b : Nat} {sp dp n k : Int} (h : dp ≤ k ∧ k < dp + n) : nw_cp J a b sp dp n b k = J a (sp + (k - dp)) := by
  simp [nw_cp, h]
theorem nw_cpP {J : Nat → Int → Int} {a b x : Nat} {sp dp n : Int} (h : ¬ x = b) : nw_cp J a b sp dp n x = J x := by
  funext k
  exact nw_cpN h
/-- the state at place a, seen as if it were at place 2 -/
def sp_sh (a : Nat) (J : Nat → Int → Int) : Nat → Int → Int := fun x => J (a + (x - 2))
theorem sp_sh2 : RC (sp_sh 2 J) (sp_sh 2 L) g ↔ RC J L g := Iff.rfl
def sp_c9 (p q : Nat) (J J' : Nat → Int → Int) : Prop := (J' (p + 1) 0 = J (q + 1) 0 ∧ J' (p + 1) 1 = J (q + 1) 1) ∧ (∀ k, 0 ≤ k → k < 6 → J' (p + 2) k = J (q + 2) k) ∧ ∀ k, 0 ≤ k → k < 10 → J' (p + 3) k = J (q + 3) k ∧ J' (p + 4) k = J (q + 4) k ∧ J' (p + 5) k = J (q + 5) k ∧ J' (p + 6) k = J (q + 6) k
def sp_c4 (p q : Nat) (J J' : Nat → Int → Int) : Prop := (J' (p + 7) 0 = J (q + 7) 0 ∧ J' (p + 7) 6 = J (q + 7) 6 ∧ J' (p + 7) 7 = J (q + 7) 7) ∧ (∀ k, 0 ≤ k → k < 3 → J' (p + 8) k = J (q + 8) k ∧ J' (p + 9) k = J (q + 9) k ∧ J' (p + 10) k = J (q + 10) k ∧ J' (p + 11) k = J (q + 11) k ∧ J' (p + 12) k = J (q + 12) k) ∧ ∀ k, 0 ≤ k → k < 10 → J' (p + 13) k = J (q + 13) k ∧ J' (p + 14) k = J (q + 14) k ∧ J' (p + 15) k = J (q + 15) k
def sp_c7 (p q : Nat) (J J' : Nat → Int → Int) : Prop := (J' (p + 16) 0 = J (q + 16) 0 ∧ J' (p + 16) 1 = J (q + 16) 1) ∧ ∀ k, 0 ≤ k → k < 10 → J' (p + 17) k = J (q + 17) k ∧ J' (p + 18) k = J (q + 18) k ∧ J' (p + 19) k = J (q + 19) k ∧ J' (p + 20) k = J (q + 20) k ∧ J' (p + 21) k = J (q + 21) k ∧ J' (p + 22) k = J (q + 22) k ∧ J' (p + 23) k = J (q + 23) k
theorem sp_apart {p q : Nat} (hp : nw_st p = true) (hq : nw_st q = true) (h : ¬ p = q) : ∀ i j : Nat, i < 24 → j < 24 → (q + i = p + j) = False := fun i j a b => by
  have := nw_stD hp hq h
  exact eq_false (by omega)
theorem t_X9_copyFrom {p q : Nat} (hp : nw_st p = true) (hq : nw_st q = true) (h : ¬ p = q) (hQ : ∀ J', (∀ x, ¬ (p + 1 ≤ x ∧ x ≤ p + 6) → J' x = J x) → sp_c9 p q J J' → Qr none (J', L, W)) : NW sc d_X9_copyFrom D (0, [some (.inr (.inl (some (p + 1)))), some (.inr (.inl (some (q + 1))))], [], (J, L, W), c, sl) Qr Qx := by
  have ne := sp_apart hp hq h
  refine b_X9_copyFromS_0 hp hq (hQ _ (fun x w => ?_) ⟨?_, fun k a b => ?_, fun k a b => ?_⟩)
  · rw [nw_cpP (by omega), nw_cpP (by omega), nw_cpP (by omega), nw_cpP (by omega), nw_cpP (by omega), nw_uP (by omega), nw_uP (by omega)]
  · simp [nw_cp, nw_u, ne]
  · simp [nw_cp, nw_u, ne, a, b]
  · simp [nw_cp, nw_u, ne, a, b]
theorem t_X4_copyFrom {p q : Nat} (hp : nw_st p = true) (hq : nw_st q = true) (h : ¬ p = q) (hQ : ∀ J', (∀ x, ¬ (p + 7 ≤ x ∧ x ≤ p + 15) → J' x = J x) → sp_c4 p q J J' → Qr none (J', L, W)) : NW sc d_X4_copyFrom D (0, [some (.inr (.inl (some (p + 7)))), some (.inr (.inl (some (q + 7))))], [], (J, L, W), c, sl) Qr Qx := by
  have ne := sp_apart hp hq h
  refine b_X4_copyFromS_0 hp hq (hQ _ (fun x w => ?_) ⟨?_, fun k a b => ?_, fun k a b => ?_⟩)
  · rw [nw_cpP (by omega), nw_cpP (by omega), nw_cpP (by omega), nw_uP (by omega), nw_uP (by omega), nw_cpP (by omega), nw_cpP (by omega), nw_cpP (by omega), nw_cpP (by omega), nw_cpP (by omega), nw_uP (by omega)]
  · simp [nw_cp, nw_u, ne]
  · simp [nw_cp, nw_u, ne, a, b]
  · simp [nw_cp, nw_u, ne, a, b]
theorem t_X7_copyFrom {p q : Nat} (hp : nw_st p = true) (hq : nw_st q = true) (h : ¬ p = q) (hQ : ∀ J', (∀ x, ¬ (p + 16 ≤ x ∧ x ≤ p + 23) → J' x = J x) → sp_c7 p q J J' → Qr none (J', L, W)) : NW sc d_X7_copyFrom D (0, [some (.inr (.inl (some (p + 16)))), some (.inr (.inl (some (q + 16))))], [], (J, L, W), c, sl) Qr Qx := by
  have ne := sp_apart hp hq h
  refine b_X7_copyFromS_0 hp hq (hQ _ (fun x w => ?_) ⟨?_, fun k a b => ?_⟩)
  · rw [nw_cpP (by omega), nw_cpP (by omega), nw_cpP (by omega), nw_cpP (by omega), nw_cpP (by omega), nw_cpP (by omega), nw_cpP (by omega), nw_uP (by omega), nw_uP (by omega)]
  · simp [nw_cp, nw_u, ne]
  · simp [nw_cp, nw_u, ne, a, b]
theorem sp_c9.rc {p q : Nat} {J J' : Nat → Int → Int} {g : Int → Int} {B : Int} (h : sp_c9 p q J J') (hI : Inv g B) (hR : RCw (sp_sh q J) g) : RCw (sp_sh p J') g := by
  have k1 := hI.cr
  have k2 := hI.ch
  refine ⟨h.1.1.trans hR.cr, h.1.2.trans hR.ch, fun i a b => (h.2.1 i a (by omega)).trans (hR.dep i a b), fun i a b => ?_⟩
  have e := h.2.2 i a (by omega)
  have r := hR.cha i a b
  exact ⟨e.1.trans r.1, e.2.1.trans r.2.1, e.2.2.1.trans r.2.2.1, e.2.2.2.trans r.2.2.2⟩
theorem sp_c4.rf {p q : Nat} {J J' : Nat → Int → Int} {g : Int → Int} {B : Int} (h : sp_c4 p q J J') (hI : Inv g B) (hR : RCf (sp_sh q J) g) : RCf (sp_sh p J') g := by
  have k3 := hI.fe
  refine ⟨h.1.1.trans hR.fe, fun f a b => ?_⟩
  have e := h.2.1 f a (by omega)
  have r := hR.fer f a b
  show J' (p + 11) f = _ ∧ J' (p + 12) f = _ ∧ ((_ ∧ J' (p + 9) f = _ ∧ J' (p + 8) f = _) ∨ (_ ∧ J' (p + 9) f = _ ∧ J' (p + 8) f = _ ∧ J' (p + 10) f = _))
  rw [e.1, e.2.1, e.2.2.1, e.2.2.2.1, e.2.2.2.2]
  exact r
theorem sp_c4.rp {p q : Nat} {J J' : Nat → Int → Int} {g : Int → Int} (h : sp_c4 p q J J') (hR : RCp (sp_sh q J) g) : RCp (sp_sh p J') g := by
  refine ⟨h.1.2.1.trans hR.pa, h.1.2.2.trans hR.sn, fun r a b d => ?_⟩
  have e := h.2.2 ((g 8 - 1 - r) % 10) (by omega) (by omega)
  have r := hR.kep r a b d
  exact ⟨e.1.trans r.1, e.2.1.trans r.2.1, e.2.2.trans r.2.2⟩
theorem sp_c7.rm {p q : Nat} {J J' : Nat → Int → Int} {g : Int → Int} {B : Int} (h : sp_c7 p q J J') (hI : Inv g B) (hR : RCm (sp_sh q J) g) : RCm (sp_sh p J') g := by
  have k4 := hI.mo
  refine ⟨h.1.1.trans hR.mo, h.1.2.trans hR.nx, fun i a b => ?_⟩
  have e := h.2 i a (by omega)
  have r := hR.moo i a b
  show J' (p + 17) i = _ ∧ J' (p + 18) i = _ ∧ J' (p + 19) i = _ ∧ J' (p + 20) i = _ ∧ J' (p + 21) i = _ ∧ ((_ ∧ J' (p + 22) i = _ ∧ J' (p + 23) i = _) ∨ (_ ∧ J' (p + 22) i = _ ∧ J' (p + 23) i = _))
  rw [e.1, e.2.1, e.2.2.1, e.2.2.2.1, e.2.2.2.2.1, e.2.2.2.2.2.1, e.2.2.2.2.2.2]
  exact r
/-- parts of a state, where the places are as they were -/
theorem RC.shK {J J' L L' : Nat → Int → Int} {g : Int → Int} {B : Int} {p : Nat} (h : RC (sp_sh p J) (sp_sh p L) g) (hI : Inv g B) (e : ∀ x, p ≤ x → x ≤ p + 23 → J' x = J x) (el : L' p = L p) : RC (sp_sh p J') (sp_sh p L') g := by
  have q : ∀ x, 2 ≤ x → x ≤ 25 → sp_sh p J' x = sp_sh p J x := fun x a b => e _ (by omega) (by omega)
  have r := h.keep hI q
  exact ⟨r.s.to rfl el ⟨rfl, rfl, rfl⟩, r.2⟩
theorem t_X8_copyFrom {p q : Nat} (hp : nw_st p = true) (hq : nw_st q = true) (h : ¬ p = q) (hD : 1 ≤ D) (hQ : ∀ J' L', (∀ x, ¬ (p ≤ x ∧ x ≤ p + 23) → J' x = J x) → (∀ x, ¬ x = p → L' x = L x) → (∀ g B, Inv g B → RC (sp_sh q J) (sp_sh q L) g → RC (sp_sh p J') (sp_sh p L') g) → Qr none (J', L', W)) : NW sc d_X8_copyFrom D (0, [some (.inr (.inl (some (p)))), some (.inr (.inl (some (q))))], [], (J, L, W), c, sl) Qr Qx := by
  have ap := nw_stD hp hq h
  refine b_X8_copyFromS_0 hD hp hq (t_X9_copyFrom hp hq h (fun J1 x1 c1 => b_X8_copyFromS_11 hD hp hq ?_))
  refine t_X4_copyFrom hp hq h (fun J2 x2 c2 => b_X8_copyFromS_22 hD hp hq ?_)
  refine t_X7_copyFrom hp hq h (fun J3 x3 c3 => b_X8_copyFromS_33 hp hq ?_)
  refine hQ _ _ (fun x w => ?_) (fun x w => nw_uP w) (fun g B hI hR => ?_)
  · rw [nw_uP (by omega), nw_uP (by omega), x3 x (by omega), x2 x (by omega), x1 x (by omega)]
  · have f3 : ∀ x, ¬ x = p → nw_u (nw_u J3 p 3 (J3 q 3)) p 4 ((nw_u J3 p 3 (J3 q 3)) q 4) x = J3 x := fun x w => by rw [nw_uP w, nw_uP w]
    have e3 : J3 q = J q := by rw [x3 q (by omega), x2 q (by omega), x1 q (by omega)]
    have r1 : RCw (sp_sh p J1) g := c1.rc hI hR.w
    have k1 : ∀ x, q ≤ x → x ≤ q + 23 → J1 x = J x := fun x a b => x1 x (by omega)
    have R1 : RC (sp_sh q J1) (sp_sh q L) g := hR.shK hI k1 rfl
    have r2f : RCf (sp_sh p J2) g := c2.rf hI R1.f
    have r2p : RCp (sp_sh p J2) g := c2.rp R1.p
    have R2 : RC (sp_sh q J2) (sp_sh q L) g := R1.shK hI (fun x a b => x2 x (by omega)) rfl
    have r3 : RCm (sp_sh p J3) g := c3.rm hI R2.m
    have sh : ∀ x, 3 ≤ x → sp_sh p (nw_u (nw_u J3 p 3 (J3 q 3)) p 4 ((nw_u J3 p 3 (J3 q 3)) q 4)) x = sp_sh p J3 x := fun x a => f3 _ (by omega)
    refine ⟨⟨?_, ?_, ?_⟩, ?_, ?_, ?_, ?_⟩
    · show nw_u (nw_u J3 p 3 (J3 q 3)) p 4 ((nw_u J3 p 3 (J3 q 3)) q 4) p 3 = g 0
      rw [nw_uI (by decide), nw_uS, e3]
      exact hR.ho
    · show nw_u (nw_u J3 p 3 (J3 q 3)) p 4 ((nw_u J3 p 3 (J3 q 3)) q 4) p 4 = g 6
      rw [nw_uS, nw_uP (fun z => h z.symm), e3]
      exact hR.fa
    · show nw_u L p 5 (L q 5) p 5 = _
      rw [nw_uS]
      exact hR.pu
    · refine r1.to (fun x a b => ?_) ⟨rfl, rfl⟩ (fun _ _ _ => rfl) hI.cr.2 hI.ch.2
      rw [sh x (by omega)]
      unfold sp_sh
      rw [x3 _ (by omega), x2 _ (by omega)]
    · refine r2f.to ⟨?_, fun x a b => ?_⟩ rfl (fun _ _ _ => rfl) hI.fe.2
      · rw [sh 9 (by decide)]
        unfold sp_sh
        rw [x3 _ (by omega)]
      · rw [sh x (by omega)]
        unfold sp_sh
        rw [x3 _ (by omega)]
    · refine r2p.to ⟨?_, fun x a b => ?_⟩ ⟨rfl, rfl⟩ (fun _ _ _ => rfl)
      · rw [sh 9 (by decide)]
        unfold sp_sh
        rw [x3 _ (by omega)]
        exact ⟨rfl, rfl⟩
      · rw [sh x (by omega)]
        unfold sp_sh
        rw [x3 _ (by omega)]
    · exact r3.to (fun x a b => sh x (by omega)) ⟨rfl, rfl⟩ (fun _ _ _ => rfl) hI.mo.2
/-- words that agree -/
def sp_ew (g g' : Int → Int) : Prop := ∀ s, 0 ≤ s → s < 161 → g' s = g s
theorem Inv.ew {g g' : Int → Int} {B : Int} (h : Inv g B) (e : sp_ew g g') : Inv g' B := by
  have e0 := e 0 (by decide) (by decide)
  have e1 := e 1 (by decide) (by decide)
  have e2 := e 2 (by decide) (by decide)
  have e3 := e 3 (by decide) (by decide)
  have e4 := e 4 (by decide) (by decide)
  have e5 := e 5 (by decide) (by decide)
  refine ⟨h.bd, by rw [e0]; exact h.ho, by rw [e1]; exact h.cr, by rw [e2]; exact h.ch, by rw [e3]; exact h.fe, by rw [e4]; exact h.mo, by rw [e5]; exact h.nx, by rw [e 6 (by decide) (by decide)]; exact h.fa, by rw [e 7 (by decide) (by decide)]; exact h.re, by rw [e 8 (by decide) (by decide)]; exact h.pa, by rw [e 9 (by decide) (by decide)]; exact h.sn, h.dep_to e1 (fun s a b => e s (by omega) (by omega)), h.cha_to e1 e2 (fun s a b => e s (by omega) (by omega)), h.uni_to e2 (fun s a b => e s (by omega) (by omega)), h.fer_to (by omega) e3 e0 (fun s a b => e s (by omega) (by omega)), h.moo_to (by omega) (by omega) e4 (by omega) (fun s a b => e s (by omega) (by omega)), h.car_to e3 e4 (fun s a b => e s (by omega) (by omega)), h.zer_to e3 (fun s a b => e s (by omega) (by omega))⟩
theorem RC.ew {J L : Nat → Int → Int} {g g' : Int → Int} {B : Int} (h : RC J L g) (hI : Inv g B) (e : sp_ew g g') : RC J L g' := 
  ⟨h.s.to rfl rfl ⟨e 0 (by decide) (by decide), e 6 (by decide) (by decide), e 7 (by decide) (by decide)⟩, h.w.to (fun _ _ _ => rfl) ⟨e 1 (by decide) (by decide), e 2 (by decide) (by decide)⟩ (fun s a b => e s (by omega) (by omega)) hI.cr.2 hI.ch.2, h.f.to ⟨rfl, fun _ _ _ => rfl⟩ (e 3 (by decide) (by decide)) (fun s a b => e s (by omega) (by omega)) hI.fe.2, h.p.to ⟨⟨rfl, rfl⟩, fun _ _ _ => rfl⟩ ⟨e 8 (by decide) (by decide), e 9 (by decide) (by decide)⟩ (fun s a b => e s (by omega) (by omega)), h.m.to (fun _ _ _ => rfl) ⟨e 4 (by decide) (by decide), e 5 (by decide) (by decide)⟩ (fun s a b => e s (by omega) (by omega)) hI.mo.2⟩
theorem fut_ew {g g' : Int → Int} {B : Int} (h : sp_fut g) (hI : Inv g B) (e : sp_ew g g') : sp_fut g' := fun f a b => by
  have k3 := hI.fe
  rw [e 3 (by decide) (by decide)] at b
  rw [e (62 + f) (by omega) (by omega), e 0 (by decide) (by decide)]
  exact h f a b
end

