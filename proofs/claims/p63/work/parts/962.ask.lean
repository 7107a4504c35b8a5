/-! questions of an office -/
section
variable {sc : Nat × (Nat → Int32)} {D : Nat} {J L : Nat → Int → Int} {W : nw_W} {c sl : Nat} {Qr : nw_QR} {Qx : nw_QX} {g : Int → Int} {B : Int}
def of_o (k v : Int) : Nat ⊕ Option nw_V := if k = 0 then .inr (some (.inl v)) else .inl (k - 1).toNat
theorem of_ex {s : Int → Int → Prop} (hu : ∀ k v k' v', s k v → s k' v' → k = k' ∧ (k = 0 → v = v')) : ∃ o, ∀ k v, s k v → o = of_o k v := by
  by_cases h : ∃ k v, s k v
  · obtain ⟨k, v, h⟩ := h
    refine ⟨of_o k v, fun k' v' h' => ?_⟩
    obtain ⟨rfl, e⟩ := hu k v k' v' h h'
    unfold of_o
    by_cases z : k = 0
    · rw [if_pos z, if_pos z, e z]
    · rw [if_neg z, if_neg z]
  · exact ⟨.inl 0, fun k v h' => (h ⟨k, v, h'⟩).elim⟩
theorem sp_wrk.refl {J : Nat → Int → Int} : sp_wrk J J := fun _ _ => rfl
theorem sp_nt_mono {g : Int → Int} {t t' : Int} (h : t ≤ t') : sp_nt g t' ≤ sp_nt g t :=
  sp_sum_le' (fun v _ _ => sp_b_mono (fun q u u0 u1 w => q u u0 u1 (sp_cn_mono (fun e _ _ (z : g (36 + e) ≤ t) => (show g (36 + e) ≤ t' by omega)) w)))
theorem sp_nsum_nn {g : Int → Int} : 0 ≤ sp_nsum g := by
  have h := sp_sum_le' (f := fun _ => (0 : Int)) (h := fun t => sp_nt g t - sp_nt g 9) (n := 10) (fun i i0 i1 => by
    have := sp_nt_mono (g := g) (t := i) (t' := 9) (by omega)
    show (0 : Int) ≤ sp_nt g i - sp_nt g 9
    omega)
  exact h
def q_depthOf_s (w : of_S) (x : Int) (k v : Int) : Prop := ((k = 1 ∧ ¬ (0 ≤ x ∧ x < w.1.1 1)) ∨ (k = 0 ∧ (0 ≤ x ∧ x < w.1.1 1) ∧ v = w.1.1 (10 + x)))
theorem q_depthOf {w : of_S} {x : Int} {o : Nat ⊕ Option nw_V} (ho : ∀ k v, q_depthOf_s w x k v → o = of_o k v) : of_call d_X11_depthOf [.inl x] w o w 0 := by
    unfold q_depthOf_s at ho
    intro sc J L W B Qr Qx h hB hQ
    show NW sc d_X11_depthOf 20 (0, [some (.inr (.inl (some 0))), some (.inl x)], [], (J, L, W), 4, 24) Qr Qx
    have hA := h.1
    have R := sp_sh2.mp hA.1.1
    have I := hA.1.2.1
    obtain ⟨g, hg⟩ : ∃ g, g = w.1.1 := ⟨_, rfl⟩
    rw [← hg] at R I
    try rw [← hg] at ho
    have hbd := I.bd
    have hho := I.ho
    have hcr := I.cr
    have hch := I.ch
    have hfe := I.fe
    have hmo := I.mo
    have hnx := I.nx
    have c1 := R.cr
    have c2 := R.ch
    have c3 := R.fe
    have c4 := R.mo
    have c5 := R.ho
    have f1 := R.dep x
    have kE : ∀ (k : Int) (J1 : Nat → Int → Int) n2, W.2.2.2.2 ≤ n2 → sp_wrk J J1 → (∃ v : Int, 1 ≤ k ∧ ((k = 1 ∧ ¬ (0 ≤ x ∧ x < g 1)) ∨ (k = 0 ∧ (0 ≤ x ∧ x < g 1) ∧ v = g (10 + x)))) → Qx (k - 1).toNat (J1, L, nw_top W n2) := fun k J1 n2 h2 f1 hk => by
      obtain ⟨v, k1, hk⟩ := hk
      have e := ho k v hk
      rw [of_o, if_neg (by omega)] at e
      subst e
      exact hQ J1 L (nw_top W n2) (h.q f1 h2) rfl h2
    have kV : ∀ (v : Int) (J1 : Nat → Int → Int), sp_wrk J J1 → (∃ k : Int, k = 0 ∧ ((k = 1 ∧ ¬ (0 ≤ x ∧ x < g 1)) ∨ (k = 0 ∧ (0 ≤ x ∧ x < g 1) ∧ v = g (10 + x)))) → Qr (some (.inl v)) (J1, L, W) := fun v J1 f1 hk => by
      obtain ⟨k, k0, hk⟩ := hk
      have e := ho k v hk
      rw [of_o, if_pos k0] at e
      subst e
      exact hQ J1 L W (h.q (n := W.2.2.2.2) f1 (Nat.le_refl _)) rfl (Nat.le_refl _)
    refine b_X11_depthOf_0 (by decide) (by decide) (by decide) ?_
    (repeat' (first | refine And.intro ?_ ?_ | refine fun _ => ?_))
    all_goals first | omega | (exfalso; omega) | exact kE 1 J _ (by assumption) sp_wrk.refl ⟨0, by omega⟩ | exact kV _ J sp_wrk.refl ⟨0, by omega⟩
theorem q_depthOf_u {w : of_S} {x : Int} {k v k' v' : Int} (h : q_depthOf_s w x k v) (h' : q_depthOf_s w x k' v') : k = k' ∧ (k = 0 → v = v') := by
  unfold q_depthOf_s at h h'
  omega
def q_craterOf_s (w : of_S) (x : Int) (k v : Int) : Prop := ((k = 1 ∧ ¬ (0 ≤ x ∧ x < w.1.1 3)) ∨ (k = 3 ∧ (0 ≤ x ∧ x < w.1.1 3) ∧ 0 < w.1.1 (62 + x)) ∨ (k = 0 ∧ (0 ≤ x ∧ x < w.1.1 3) ∧ w.1.1 (62 + x) ≤ 0 ∧ v = w.1.1 (56 + x)))
theorem q_craterOf {w : of_S} {x : Int} {o : Nat ⊕ Option nw_V} (ho : ∀ k v, q_craterOf_s w x k v → o = of_o k v) : of_call d_X11_craterOf [.inl x] w o w 0 := by
    unfold q_craterOf_s at ho
    intro sc J L W B Qr Qx h hB hQ
    show NW sc d_X11_craterOf 20 (0, [some (.inr (.inl (some 0))), some (.inl x)], [], (J, L, W), 4, 24) Qr Qx
    have hA := h.1
    have R := sp_sh2.mp hA.1.1
    have I := hA.1.2.1
    obtain ⟨g, hg⟩ : ∃ g, g = w.1.1 := ⟨_, rfl⟩
    rw [← hg] at R I
    try rw [← hg] at ho
    have hbd := I.bd
    have hho := I.ho
    have hcr := I.cr
    have hch := I.ch
    have hfe := I.fe
    have hmo := I.mo
    have hnx := I.nx
    have c1 := R.cr
    have c2 := R.ch
    have c3 := R.fe
    have c4 := R.mo
    have c5 := R.ho
    have f1 := R.fer x
    have f2 := I.fer x
    have kE : ∀ (k : Int) (J1 : Nat → Int → Int) n2, W.2.2.2.2 ≤ n2 → sp_wrk J J1 → (∃ v : Int, 1 ≤ k ∧ ((k = 1 ∧ ¬ (0 ≤ x ∧ x < g 3)) ∨ (k = 3 ∧ (0 ≤ x ∧ x < g 3) ∧ 0 < g (62 + x)) ∨ (k = 0 ∧ (0 ≤ x ∧ x < g 3) ∧ g (62 + x) ≤ 0 ∧ v = g (56 + x)))) → Qx (k - 1).toNat (J1, L, nw_top W n2) := fun k J1 n2 h2 f1 hk => by
      obtain ⟨v, k1, hk⟩ := hk
      have e := ho k v hk
      rw [of_o, if_neg (by omega)] at e
      subst e
      exact hQ J1 L (nw_top W n2) (h.q f1 h2) rfl h2
    have kV : ∀ (v : Int) (J1 : Nat → Int → Int), sp_wrk J J1 → (∃ k : Int, k = 0 ∧ ((k = 1 ∧ ¬ (0 ≤ x ∧ x < g 3)) ∨ (k = 3 ∧ (0 ≤ x ∧ x < g 3) ∧ 0 < g (62 + x)) ∨ (k = 0 ∧ (0 ≤ x ∧ x < g 3) ∧ g (62 + x) ≤ 0 ∧ v = g (56 + x)))) → Qr (some (.inl v)) (J1, L, W) := fun v J1 f1 hk => by
      obtain ⟨k, k0, hk⟩ := hk
      have e := ho k v hk
      rw [of_o, if_pos k0] at e
      subst e
      exact hQ J1 L W (h.q (n := W.2.2.2.2) f1 (Nat.le_refl _)) rfl (Nat.le_refl _)
    refine b_X11_craterOf_0 (by decide) (by decide) (by decide) ?_
    (repeat' (first | refine And.intro ?_ ?_ | refine fun _ => ?_))
    all_goals first | omega | (exfalso; omega) | exact kE 1 J _ (by assumption) sp_wrk.refl ⟨0, by omega⟩ | exact kE 3 J _ (by assumption) sp_wrk.refl ⟨0, by omega⟩ | exact kV _ J sp_wrk.refl ⟨0, by omega⟩
theorem q_craterOf_u {w : of_S} {x : Int} {k v k' v' : Int} (h : q_craterOf_s w x k v) (h' : q_craterOf_s w x k' v') : k = k' ∧ (k = 0 → v = v') := by
  unfold q_craterOf_s at h h'
  omega
def q_targetOf_s (w : of_S) (x : Int) (k v : Int) : Prop := ((k = 1 ∧ ¬ (0 ≤ x ∧ x < w.1.1 3)) ∨ (k = 3 ∧ (0 ≤ x ∧ x < w.1.1 3) ∧ w.1.1 (62 + x) ≤ 0) ∨ (k = 0 ∧ (0 ≤ x ∧ x < w.1.1 3) ∧ 0 < w.1.1 (62 + x) ∧ v = w.1.1 (56 + x)))
theorem q_targetOf {w : of_S} {x : Int} {o : Nat ⊕ Option nw_V} (ho : ∀ k v, q_targetOf_s w x k v → o = of_o k v) : of_call d_X11_targetOf [.inl x] w o w 0 := by
    unfold q_targetOf_s at ho
    intro sc J L W B Qr Qx h hB hQ
    show NW sc d_X11_targetOf 20 (0, [some (.inr (.inl (some 0))), some (.inl x)], [], (J, L, W), 4, 24) Qr Qx
    have hA := h.1
    have R := sp_sh2.mp hA.1.1
    have I := hA.1.2.1
    obtain ⟨g, hg⟩ : ∃ g, g = w.1.1 := ⟨_, rfl⟩
    rw [← hg] at R I
    try rw [← hg] at ho
    have hbd := I.bd
    have hho := I.ho
    have hcr := I.cr
    have hch := I.ch
    have hfe := I.fe
    have hmo := I.mo
    have hnx := I.nx
    have c1 := R.cr
    have c2 := R.ch
    have c3 := R.fe
    have c4 := R.mo
    have c5 := R.ho
    have f1 := R.fer x
    have f2 := I.fer x
    have kE : ∀ (k : Int) (J1 : Nat → Int → Int) n2, W.2.2.2.2 ≤ n2 → sp_wrk J J1 → (∃ v : Int, 1 ≤ k ∧ ((k = 1 ∧ ¬ (0 ≤ x ∧ x < g 3)) ∨ (k = 3 ∧ (0 ≤ x ∧ x < g 3) ∧ g (62 + x) ≤ 0) ∨ (k = 0 ∧ (0 ≤ x ∧ x < g 3) ∧ 0 < g (62 + x) ∧ v = g (56 + x)))) → Qx (k - 1).toNat (J1, L, nw_top W n2) := fun k J1 n2 h2 f1 hk => by
      obtain ⟨v, k1, hk⟩ := hk
      have e := ho k v hk
      rw [of_o, if_neg (by omega)] at e
      subst e
      exact hQ J1 L (nw_top W n2) (h.q f1 h2) rfl h2
    have kV : ∀ (v : Int) (J1 : Nat → Int → Int), sp_wrk J J1 → (∃ k : Int, k = 0 ∧ ((k = 1 ∧ ¬ (0 ≤ x ∧ x < g 3)) ∨ (k = 3 ∧ (0 ≤ x ∧ x < g 3) ∧ g (62 + x) ≤ 0) ∨ (k = 0 ∧ (0 ≤ x ∧ x < g 3) ∧ 0 < g (62 + x) ∧ v = g (56 + x)))) → Qr (some (.inl v)) (J1, L, W) := fun v J1 f1 hk => by
      obtain ⟨k, k0, hk⟩ := hk
      have e := ho k v hk
      rw [of_o, if_pos k0] at e
      subst e
      exact hQ J1 L W (h.q (n := W.2.2.2.2) f1 (Nat.le_refl _)) rfl (Nat.le_refl _)
    refine b_X11_targetOf_0 (by decide) (by decide) (by decide) ?_
    (repeat' (first | refine And.intro ?_ ?_ | refine fun _ => ?_))
    all_goals first | omega | (exfalso; omega) | exact kE 1 J _ (by assumption) sp_wrk.refl ⟨0, by omega⟩ | exact kE 3 J _ (by assumption) sp_wrk.refl ⟨0, by omega⟩ | exact kV _ J sp_wrk.refl ⟨0, by omega⟩
theorem q_targetOf_u {w : of_S} {x : Int} {k v k' v' : Int} (h : q_targetOf_s w x k v) (h' : q_targetOf_s w x k' v') : k = k' ∧ (k = 0 → v = v') := by
  unfold q_targetOf_s at h h'
  omega
def q_hoursLeft_s (w : of_S) (x : Int) (k v : Int) : Prop := ((k = 1 ∧ ¬ (0 ≤ x ∧ x < w.1.1 3)) ∨ (k = 0 ∧ (0 ≤ x ∧ x < w.1.1 3) ∧ ((0 < w.1.1 (62 + x) ∧ v = w.1.1 (62 + x) - w.1.1 0) ∨ (w.1.1 (62 + x) ≤ 0 ∧ v = 0))))
theorem q_hoursLeft {w : of_S} {x : Int} {o : Nat ⊕ Option nw_V} (ho : ∀ k v, q_hoursLeft_s w x k v → o = of_o k v) : of_call d_X11_hoursLeft [.inl x] w o w 0 := by
    unfold q_hoursLeft_s at ho
    intro sc J L W B Qr Qx h hB hQ
    show NW sc d_X11_hoursLeft 20 (0, [some (.inr (.inl (some 0))), some (.inl x)], [], (J, L, W), 4, 24) Qr Qx
    have hA := h.1
    have R := sp_sh2.mp hA.1.1
    have I := hA.1.2.1
    obtain ⟨g, hg⟩ : ∃ g, g = w.1.1 := ⟨_, rfl⟩
    rw [← hg] at R I
    try rw [← hg] at ho
    have hbd := I.bd
    have hho := I.ho
    have hcr := I.cr
    have hch := I.ch
    have hfe := I.fe
    have hmo := I.mo
    have hnx := I.nx
    have c1 := R.cr
    have c2 := R.ch
    have c3 := R.fe
    have c4 := R.mo
    have c5 := R.ho
    have f1 := R.fer x
    have f2 := I.fer x
    have kE : ∀ (k : Int) (J1 : Nat → Int → Int) n2, W.2.2.2.2 ≤ n2 → sp_wrk J J1 → (∃ v : Int, 1 ≤ k ∧ ((k = 1 ∧ ¬ (0 ≤ x ∧ x < g 3)) ∨ (k = 0 ∧ (0 ≤ x ∧ x < g 3) ∧ ((0 < g (62 + x) ∧ v = g (62 + x) - g 0) ∨ (g (62 + x) ≤ 0 ∧ v = 0))))) → Qx (k - 1).toNat (J1, L, nw_top W n2) := fun k J1 n2 h2 f1 hk => by
      obtain ⟨v, k1, hk⟩ := hk
      have e := ho k v hk
      rw [of_o, if_neg (by omega)] at e
      subst e
      exact hQ J1 L (nw_top W n2) (h.q f1 h2) rfl h2
    have kV : ∀ (v : Int) (J1 : Nat → Int → Int), sp_wrk J J1 → (∃ k : Int, k = 0 ∧ ((k = 1 ∧ ¬ (0 ≤ x ∧ x < g 3)) ∨ (k = 0 ∧ (0 ≤ x ∧ x < g 3) ∧ ((0 < g (62 + x) ∧ v = g (62 + x) - g 0) ∨ (g (62 + x) ≤ 0 ∧ v = 0))))) → Qr (some (.inl v)) (J1, L, W) := fun v J1 f1 hk => by
      obtain ⟨k, k0, hk⟩ := hk
      have e := ho k v hk
      rw [of_o, if_pos k0] at e
      subst e
      exact hQ J1 L W (h.q (n := W.2.2.2.2) f1 (Nat.le_refl _)) rfl (Nat.le_refl _)
    refine b_X11_hoursLeft_0 (by decide) (by decide) (by decide) ?_
    (repeat' (first | refine And.intro ?_ ?_ | refine fun _ => ?_))
    all_goals first | omega | (exfalso; omega) | exact kE 1 J _ (by assumption) sp_wrk.refl ⟨0, by omega⟩ | exact kV _ J sp_wrk.refl ⟨0, by omega⟩
theorem q_hoursLeft_u {w : of_S} {x : Int} {k v k' v' : Int} (h : q_hoursLeft_s w x k v) (h' : q_hoursLeft_s w x k' v') : k = k' ∧ (k = 0 → v = v') := by
  unfold q_hoursLeft_s at h h'
  omega
def q_moonAt_s (w : of_S) (x : Int) (k v : Int) : Prop := ((k = 1 ∧ ¬ (0 ≤ x ∧ x < w.1.1 4)) ∨ (k = 0 ∧ (0 ≤ x ∧ x < w.1.1 4) ∧ v = w.1.1 (71 + x)))
theorem q_moonAt {w : of_S} {x : Int} {o : Nat ⊕ Option nw_V} (ho : ∀ k v, q_moonAt_s w x k v → o = of_o k v) : of_call d_X11_moonAt [.inl x] w o w 0 := by
    unfold q_moonAt_s at ho
    intro sc J L W B Qr Qx h hB hQ
    show NW sc d_X11_moonAt 20 (0, [some (.inr (.inl (some 0))), some (.inl x)], [], (J, L, W), 4, 24) Qr Qx
    have hA := h.1
    have R := sp_sh2.mp hA.1.1
    have I := hA.1.2.1
    obtain ⟨g, hg⟩ : ∃ g, g = w.1.1 := ⟨_, rfl⟩
    rw [← hg] at R I
    try rw [← hg] at ho
    have hbd := I.bd
    have hho := I.ho
    have hcr := I.cr
    have hch := I.ch
    have hfe := I.fe
    have hmo := I.mo
    have hnx := I.nx
    have c1 := R.cr
    have c2 := R.ch
    have c3 := R.fe
    have c4 := R.mo
    have c5 := R.ho
    have f1 := R.moo x
    have kE : ∀ (k : Int) (J1 : Nat → Int → Int) n2, W.2.2.2.2 ≤ n2 → sp_wrk J J1 → (∃ v : Int, 1 ≤ k ∧ ((k = 1 ∧ ¬ (0 ≤ x ∧ x < g 4)) ∨ (k = 0 ∧ (0 ≤ x ∧ x < g 4) ∧ v = g (71 + x)))) → Qx (k - 1).toNat (J1, L, nw_top W n2) := fun k J1 n2 h2 f1 hk => by
      obtain ⟨v, k1, hk⟩ := hk
      have e := ho k v hk
      rw [of_o, if_neg (by omega)] at e
      subst e
      exact hQ J1 L (nw_top W n2) (h.q f1 h2) rfl h2
    have kV : ∀ (v : Int) (J1 : Nat → Int → Int), sp_wrk J J1 → (∃ k : Int, k = 0 ∧ ((k = 1 ∧ ¬ (0 ≤ x ∧ x < g 4)) ∨ (k = 0 ∧ (0 ≤ x ∧ x < g 4) ∧ v = g (71 + x)))) → Qr (some (.inl v)) (J1, L, W) := fun v J1 f1 hk => by
      obtain ⟨k, k0, hk⟩ := hk
      have e := ho k v hk
      rw [of_o, if_pos k0] at e
      subst e
      exact hQ J1 L W (h.q (n := W.2.2.2.2) f1 (Nat.le_refl _)) rfl (Nat.le_refl _)
    refine b_X11_moonAt_0 (by decide) (by decide) ?_
    (repeat' (first | refine And.intro ?_ ?_ | refine fun _ => ?_))
    all_goals first | omega | (exfalso; omega) | exact kE 1 J _ (by assumption) sp_wrk.refl ⟨0, by omega⟩ | exact kV _ J sp_wrk.refl ⟨0, by omega⟩
theorem q_moonAt_u {w : of_S} {x : Int} {k v k' v' : Int} (h : q_moonAt_s w x k v) (h' : q_moonAt_s w x k' v') : k = k' ∧ (k = 0 → v = v') := by
  unfold q_moonAt_s at h h'
  omega
def q_craterCount_s (w : of_S) (k v : Int) : Prop := (k = 0 ∧ v = w.1.1 1)
theorem q_craterCount {w : of_S} {o : Nat ⊕ Option nw_V} (ho : ∀ k v, q_craterCount_s w k v → o = of_o k v) : of_call d_X11_craterCount [] w o w 0 := by
    unfold q_craterCount_s at ho
    intro sc J L W B Qr Qx h hB hQ
    show NW sc d_X11_craterCount 20 (0, [some (.inr (.inl (some 0)))], [], (J, L, W), 4, 24) Qr Qx
    have hA := h.1
    have R := sp_sh2.mp hA.1.1
    have I := hA.1.2.1
    obtain ⟨g, hg⟩ : ∃ g, g = w.1.1 := ⟨_, rfl⟩
    rw [← hg] at R I
    try rw [← hg] at ho
    have hbd := I.bd
    have hho := I.ho
    have hcr := I.cr
    have hch := I.ch
    have hfe := I.fe
    have hmo := I.mo
    have hnx := I.nx
    have c1 := R.cr
    have c2 := R.ch
    have c3 := R.fe
    have c4 := R.mo
    have c5 := R.ho
    have kE : ∀ (k : Int) (J1 : Nat → Int → Int) n2, W.2.2.2.2 ≤ n2 → sp_wrk J J1 → (∃ v : Int, 1 ≤ k ∧ (k = 0 ∧ v = g 1)) → Qx (k - 1).toNat (J1, L, nw_top W n2) := fun k J1 n2 h2 f1 hk => by
      obtain ⟨v, k1, hk⟩ := hk
      have e := ho k v hk
      rw [of_o, if_neg (by omega)] at e
      subst e
      exact hQ J1 L (nw_top W n2) (h.q f1 h2) rfl h2
    have kV : ∀ (v : Int) (J1 : Nat → Int → Int), sp_wrk J J1 → (∃ k : Int, k = 0 ∧ (k = 0 ∧ v = g 1)) → Qr (some (.inl v)) (J1, L, W) := fun v J1 f1 hk => by
      obtain ⟨k, k0, hk⟩ := hk
      have e := ho k v hk
      rw [of_o, if_pos k0] at e
      subst e
      exact hQ J1 L W (h.q (n := W.2.2.2.2) f1 (Nat.le_refl _)) rfl (Nat.le_refl _)
    refine b_X11_craterCount_0 ?_
    exact kV _ J sp_wrk.refl ⟨0, by omega⟩
theorem q_craterCount_u {w : of_S} {k v k' v' : Int} (h : q_craterCount_s w k v) (h' : q_craterCount_s w k' v') : k = k' ∧ (k = 0 → v = v') := by
  unfold q_craterCount_s at h h'
  omega
def q_channelCount_s (w : of_S) (k v : Int) : Prop := (k = 0 ∧ v = w.1.1 2)
theorem q_channelCount {w : of_S} {o : Nat ⊕ Option nw_V} (ho : ∀ k v, q_channelCount_s w k v → o = of_o k v) : of_call d_X11_channelCount [] w o w 0 := by
    unfold q_channelCount_s at ho
    intro sc J L W B Qr Qx h hB hQ
    show NW sc d_X11_channelCount 20 (0, [some (.inr (.inl (some 0)))], [], (J, L, W), 4, 24) Qr Qx
    have hA := h.1
    have R := sp_sh2.mp hA.1.1
    have I := hA.1.2.1
    obtain ⟨g, hg⟩ : ∃ g, g = w.1.1 := ⟨_, rfl⟩
    rw [← hg] at R I
    try rw [← hg] at ho
    have hbd := I.bd
    have hho := I.ho
    have hcr := I.cr
    have hch := I.ch
    have hfe := I.fe
    have hmo := I.mo
    have hnx := I.nx
    have c1 := R.cr
    have c2 := R.ch
    have c3 := R.fe
    have c4 := R.mo
    have c5 := R.ho
    have kE : ∀ (k : Int) (J1 : Nat → Int → Int) n2, W.2.2.2.2 ≤ n2 → sp_wrk J J1 → (∃ v : Int, 1 ≤ k ∧ (k = 0 ∧ v = g 2)) → Qx (k - 1).toNat (J1, L, nw_top W n2) := fun k J1 n2 h2 f1 hk => by
      obtain ⟨v, k1, hk⟩ := hk
      have e := ho k v hk
      rw [of_o, if_neg (by omega)] at e
      subst e
      exact hQ J1 L (nw_top W n2) (h.q f1 h2) rfl h2
    have kV : ∀ (v : Int) (J1 : Nat → Int → Int), sp_wrk J J1 → (∃ k : Int, k = 0 ∧ (k = 0 ∧ v = g 2)) → Qr (some (.inl v)) (J1, L, W) := fun v J1 f1 hk => by
      obtain ⟨k, k0, hk⟩ := hk
      have e := ho k v hk
      rw [of_o, if_pos k0] at e
      subst e
      exact hQ J1 L W (h.q (n := W.2.2.2.2) f1 (Nat.le_refl _)) rfl (Nat.le_refl _)
    refine b_X11_channelCount_0 ?_
    exact kV _ J sp_wrk.refl ⟨0, by omega⟩
theorem q_channelCount_u {w : of_S} {k v k' v' : Int} (h : q_channelCount_s w k v) (h' : q_channelCount_s w k' v') : k = k' ∧ (k = 0 → v = v') := by
  unfold q_channelCount_s at h h'
  omega
def q_moonCount_s (w : of_S) (k v : Int) : Prop := (k = 0 ∧ v = w.1.1 4)
theorem q_moonCount {w : of_S} {o : Nat ⊕ Option nw_V} (ho : ∀ k v, q_moonCount_s w k v → o = of_o k v) : of_call d_X11_moonCount [] w o w 0 := by
    unfold q_moonCount_s at ho
    intro sc J L W B Qr Qx h hB hQ
    show NW sc d_X11_moonCount 20 (0, [some (.inr (.inl (some 0)))], [], (J, L, W), 4, 24) Qr Qx
    have hA := h.1
    have R := sp_sh2.mp hA.1.1
    have I := hA.1.2.1
    obtain ⟨g, hg⟩ : ∃ g, g = w.1.1 := ⟨_, rfl⟩
    rw [← hg] at R I
    try rw [← hg] at ho
    have hbd := I.bd
    have hho := I.ho
    have hcr := I.cr
    have hch := I.ch
    have hfe := I.fe
    have hmo := I.mo
    have hnx := I.nx
    have c1 := R.cr
    have c2 := R.ch
    have c3 := R.fe
    have c4 := R.mo
    have c5 := R.ho
    have kE : ∀ (k : Int) (J1 : Nat → Int → Int) n2, W.2.2.2.2 ≤ n2 → sp_wrk J J1 → (∃ v : Int, 1 ≤ k ∧ (k = 0 ∧ v = g 4)) → Qx (k - 1).toNat (J1, L, nw_top W n2) := fun k J1 n2 h2 f1 hk => by
      obtain ⟨v, k1, hk⟩ := hk
      have e := ho k v hk
      rw [of_o, if_neg (by omega)] at e
      subst e
      exact hQ J1 L (nw_top W n2) (h.q f1 h2) rfl h2
    have kV : ∀ (v : Int) (J1 : Nat → Int → Int), sp_wrk J J1 → (∃ k : Int, k = 0 ∧ (k = 0 ∧ v = g 4)) → Qr (some (.inl v)) (J1, L, W) := fun v J1 f1 hk => by
      obtain ⟨k, k0, hk⟩ := hk
      have e := ho k v hk
      rw [of_o, if_pos k0] at e
      subst e
      exact hQ J1 L W (h.q (n := W.2.2.2.2) f1 (Nat.le_refl _)) rfl (Nat.le_refl _)
    refine b_X11_moonCount_0 ?_
    exact kV _ J sp_wrk.refl ⟨0, by omega⟩
theorem q_moonCount_u {w : of_S} {k v k' v' : Int} (h : q_moonCount_s w k v) (h' : q_moonCount_s w k' v') : k = k' ∧ (k = 0 → v = v') := by
  unfold q_moonCount_s at h h'
  omega
def q_hour_s (w : of_S) (k v : Int) : Prop := (k = 0 ∧ v = w.1.1 0)
theorem q_hour {w : of_S} {o : Nat ⊕ Option nw_V} (ho : ∀ k v, q_hour_s w k v → o = of_o k v) : of_call d_X11_hour [] w o w 0 := by
    unfold q_hour_s at ho
    intro sc J L W B Qr Qx h hB hQ
    show NW sc d_X11_hour 20 (0, [some (.inr (.inl (some 0)))], [], (J, L, W), 4, 24) Qr Qx
    have hA := h.1
    have R := sp_sh2.mp hA.1.1
    have I := hA.1.2.1
    obtain ⟨g, hg⟩ : ∃ g, g = w.1.1 := ⟨_, rfl⟩
    rw [← hg] at R I
    try rw [← hg] at ho
    have hbd := I.bd
    have hho := I.ho
    have hcr := I.cr
    have hch := I.ch
    have hfe := I.fe
    have hmo := I.mo
    have hnx := I.nx
    have c1 := R.cr
    have c2 := R.ch
    have c3 := R.fe
    have c4 := R.mo
    have c5 := R.ho
    have kE : ∀ (k : Int) (J1 : Nat → Int → Int) n2, W.2.2.2.2 ≤ n2 → sp_wrk J J1 → (∃ v : Int, 1 ≤ k ∧ (k = 0 ∧ v = g 0)) → Qx (k - 1).toNat (J1, L, nw_top W n2) := fun k J1 n2 h2 f1 hk => by
      obtain ⟨v, k1, hk⟩ := hk
      have e := ho k v hk
      rw [of_o, if_neg (by omega)] at e
      subst e
      exact hQ J1 L (nw_top W n2) (h.q f1 h2) rfl h2
    have kV : ∀ (v : Int) (J1 : Nat → Int → Int), sp_wrk J J1 → (∃ k : Int, k = 0 ∧ (k = 0 ∧ v = g 0)) → Qr (some (.inl v)) (J1, L, W) := fun v J1 f1 hk => by
      obtain ⟨k, k0, hk⟩ := hk
      have e := ho k v hk
      rw [of_o, if_pos k0] at e
      subst e
      exact hQ J1 L W (h.q (n := W.2.2.2.2) f1 (Nat.le_refl _)) rfl (Nat.le_refl _)
    refine b_X11_hour_0 ?_
    exact kV _ J sp_wrk.refl ⟨0, by omega⟩
theorem q_hour_u {w : of_S} {k v k' v' : Int} (h : q_hour_s w k v) (h' : q_hour_s w k' v') : k = k' ∧ (k = 0 → v = v') := by
  unfold q_hour_s at h h'
  omega
def q_passageCount_s (w : of_S) (k v : Int) : Prop := (k = 0 ∧ v = w.1.1 8)
theorem q_passageCount {w : of_S} {o : Nat ⊕ Option nw_V} (ho : ∀ k v, q_passageCount_s w k v → o = of_o k v) : of_call d_X11_passageCount [] w o w 0 := by
    unfold q_passageCount_s at ho
    intro sc J L W B Qr Qx h hB hQ
    show NW sc d_X11_passageCount 20 (0, [some (.inr (.inl (some 0)))], [], (J, L, W), 4, 24) Qr Qx
    have hA := h.1
    have R := sp_sh2.mp hA.1.1
    have I := hA.1.2.1
    obtain ⟨g, hg⟩ : ∃ g, g = w.1.1 := ⟨_, rfl⟩
    rw [← hg] at R I
    try rw [← hg] at ho
    have hbd := I.bd
    have hho := I.ho
    have hcr := I.cr
    have hch := I.ch
    have hfe := I.fe
    have hmo := I.mo
    have hnx := I.nx
    have c1 := R.cr
    have c2 := R.ch
    have c3 := R.fe
    have c4 := R.mo
    have c5 := R.ho
    have c6 := R.pa
    have kE : ∀ (k : Int) (J1 : Nat → Int → Int) n2, W.2.2.2.2 ≤ n2 → sp_wrk J J1 → (∃ v : Int, 1 ≤ k ∧ (k = 0 ∧ v = g 8)) → Qx (k - 1).toNat (J1, L, nw_top W n2) := fun k J1 n2 h2 f1 hk => by
      obtain ⟨v, k1, hk⟩ := hk
      have e := ho k v hk
      rw [of_o, if_neg (by omega)] at e
      subst e
      exact hQ J1 L (nw_top W n2) (h.q f1 h2) rfl h2
    have kV : ∀ (v : Int) (J1 : Nat → Int → Int), sp_wrk J J1 → (∃ k : Int, k = 0 ∧ (k = 0 ∧ v = g 8)) → Qr (some (.inl v)) (J1, L, W) := fun v J1 f1 hk => by
      obtain ⟨k, k0, hk⟩ := hk
      have e := ho k v hk
      rw [of_o, if_pos k0] at e
      subst e
      exact hQ J1 L W (h.q (n := W.2.2.2.2) f1 (Nat.le_refl _)) rfl (Nat.le_refl _)
    refine b_X11_passageCount_0 ?_
    exact kV _ J sp_wrk.refl ⟨0, by omega⟩
theorem q_passageCount_u {w : of_S} {k v k' v' : Int} (h : q_passageCount_s w k v) (h' : q_passageCount_s w k' v') : k = k' ∧ (k = 0 → v = v') := by
  unfold q_passageCount_s at h h'
  omega
def q_strandingCount_s (w : of_S) (k v : Int) : Prop := (k = 0 ∧ v = w.1.1 9)
theorem q_strandingCount {w : of_S} {o : Nat ⊕ Option nw_V} (ho : ∀ k v, q_strandingCount_s w k v → o = of_o k v) : of_call d_X11_strandingCount [] w o w 0 := by
    unfold q_strandingCount_s at ho
    intro sc J L W B Qr Qx h hB hQ
    show NW sc d_X11_strandingCount 20 (0, [some (.inr (.inl (some 0)))], [], (J, L, W), 4, 24) Qr Qx
    have hA := h.1
    have R := sp_sh2.mp hA.1.1
    have I := hA.1.2.1
    obtain ⟨g, hg⟩ : ∃ g, g = w.1.1 := ⟨_, rfl⟩
    rw [← hg] at R I
    try rw [← hg] at ho
    have hbd := I.bd
    have hho := I.ho
    have hcr := I.cr
    have hch := I.ch
    have hfe := I.fe
    have hmo := I.mo
    have hnx := I.nx
    have c1 := R.cr
    have c2 := R.ch
    have c3 := R.fe
    have c4 := R.mo
    have c5 := R.ho
    have c6 := R.sn
    have kE : ∀ (k : Int) (J1 : Nat → Int → Int) n2, W.2.2.2.2 ≤ n2 → sp_wrk J J1 → (∃ v : Int, 1 ≤ k ∧ (k = 0 ∧ v = g 9)) → Qx (k - 1).toNat (J1, L, nw_top W n2) := fun k J1 n2 h2 f1 hk => by
      obtain ⟨v, k1, hk⟩ := hk
      have e := ho k v hk
      rw [of_o, if_neg (by omega)] at e
      subst e
      exact hQ J1 L (nw_top W n2) (h.q f1 h2) rfl h2
    have kV : ∀ (v : Int) (J1 : Nat → Int → Int), sp_wrk J J1 → (∃ k : Int, k = 0 ∧ (k = 0 ∧ v = g 9)) → Qr (some (.inl v)) (J1, L, W) := fun v J1 f1 hk => by
      obtain ⟨k, k0, hk⟩ := hk
      have e := ho k v hk
      rw [of_o, if_pos k0] at e
      subst e
      exact hQ J1 L W (h.q (n := W.2.2.2.2) f1 (Nat.le_refl _)) rfl (Nat.le_refl _)
    refine b_X11_strandingCount_0 ?_
    exact kV _ J sp_wrk.refl ⟨0, by omega⟩
theorem q_strandingCount_u {w : of_S} {k v k' v' : Int} (h : q_strandingCount_s w k v) (h' : q_strandingCount_s w k' v') : k = k' ∧ (k = 0 → v = v') := by
  unfold q_strandingCount_s at h h'
  omega
def q_fareTotal_s (w : of_S) (k v : Int) : Prop := (k = 0 ∧ v = w.1.1 6)
theorem q_fareTotal {w : of_S} {o : Nat ⊕ Option nw_V} (ho : ∀ k v, q_fareTotal_s w k v → o = of_o k v) : of_call d_X11_fareTotal [] w o w 0 := by
    unfold q_fareTotal_s at ho
    intro sc J L W B Qr Qx h hB hQ
    show NW sc d_X11_fareTotal 20 (0, [some (.inr (.inl (some 0)))], [], (J, L, W), 4, 24) Qr Qx
    have hA := h.1
    have R := sp_sh2.mp hA.1.1
    have I := hA.1.2.1
    obtain ⟨g, hg⟩ : ∃ g, g = w.1.1 := ⟨_, rfl⟩
    rw [← hg] at R I
    try rw [← hg] at ho
    have hbd := I.bd
    have hho := I.ho
    have hcr := I.cr
    have hch := I.ch
    have hfe := I.fe
    have hmo := I.mo
    have hnx := I.nx
    have c1 := R.cr
    have c2 := R.ch
    have c3 := R.fe
    have c4 := R.mo
    have c5 := R.ho
    have c6 := R.fa
    have kE : ∀ (k : Int) (J1 : Nat → Int → Int) n2, W.2.2.2.2 ≤ n2 → sp_wrk J J1 → (∃ v : Int, 1 ≤ k ∧ (k = 0 ∧ v = g 6)) → Qx (k - 1).toNat (J1, L, nw_top W n2) := fun k J1 n2 h2 f1 hk => by
      obtain ⟨v, k1, hk⟩ := hk
      have e := ho k v hk
      rw [of_o, if_neg (by omega)] at e
      subst e
      exact hQ J1 L (nw_top W n2) (h.q f1 h2) rfl h2
    have kV : ∀ (v : Int) (J1 : Nat → Int → Int), sp_wrk J J1 → (∃ k : Int, k = 0 ∧ (k = 0 ∧ v = g 6)) → Qr (some (.inl v)) (J1, L, W) := fun v J1 f1 hk => by
      obtain ⟨k, k0, hk⟩ := hk
      have e := ho k v hk
      rw [of_o, if_pos k0] at e
      subst e
      exact hQ J1 L W (h.q (n := W.2.2.2.2) f1 (Nat.le_refl _)) rfl (Nat.le_refl _)
    refine b_X11_fareTotal_0 ?_
    exact kV _ J sp_wrk.refl ⟨0, by omega⟩
theorem q_fareTotal_u {w : of_S} {k v k' v' : Int} (h : q_fareTotal_s w k v) (h' : q_fareTotal_s w k' v') : k = k' ∧ (k = 0 → v = v') := by
  unfold q_fareTotal_s at h h'
  omega
def q_channelBetween_s (w : of_S) (x : Int) (y : Int) (k v : Int) : Prop := ((k = 1 ∧ ¬ ((0 ≤ x ∧ x < w.1.1 1) ∧ (0 ≤ y ∧ y < w.1.1 1))) ∨ (k = 5 ∧ ((0 ≤ x ∧ x < w.1.1 1) ∧ (0 ≤ y ∧ y < w.1.1 1)) ∧ sp_btwF w.1.1 x y = -1) ∨ (k = 0 ∧ ((0 ≤ x ∧ x < w.1.1 1) ∧ (0 ≤ y ∧ y < w.1.1 1)) ∧ ¬ sp_btwF w.1.1 x y = -1 ∧ v = sp_btwF w.1.1 x y))
theorem q_channelBetween {w : of_S} {x y : Int} {o : Nat ⊕ Option nw_V} (ho : ∀ k v, q_channelBetween_s w x y k v → o = of_o k v) : of_call d_X11_channelBetween [.inl x, .inl y] w o w 0 := by
    unfold q_channelBetween_s at ho
    intro sc J L W B Qr Qx h hB hQ
    show NW sc d_X11_channelBetween 20 (0, [some (.inr (.inl (some 0))), some (.inl x), some (.inl y)], [], (J, L, W), 4, 24) Qr Qx
    have hA := h.1
    have R := sp_sh2.mp hA.1.1
    have I := hA.1.2.1
    obtain ⟨g, hg⟩ : ∃ g, g = w.1.1 := ⟨_, rfl⟩
    rw [← hg] at R I
    try rw [← hg] at ho
    have hbd := I.bd
    have hho := I.ho
    have hcr := I.cr
    have hch := I.ch
    have hfe := I.fe
    have hmo := I.mo
    have hnx := I.nx
    have c1 := R.cr
    have c2 := R.ch
    have c3 := R.fe
    have c4 := R.mo
    have c5 := R.ho
    have br := sp_btwF_rng g x y
    have kE : ∀ (k : Int) (J1 : Nat → Int → Int) n2, W.2.2.2.2 ≤ n2 → sp_wrk J J1 → (∃ v : Int, 1 ≤ k ∧ ((k = 1 ∧ ¬ ((0 ≤ x ∧ x < g 1) ∧ (0 ≤ y ∧ y < g 1))) ∨ (k = 5 ∧ ((0 ≤ x ∧ x < g 1) ∧ (0 ≤ y ∧ y < g 1)) ∧ sp_btwF g x y = -1) ∨ (k = 0 ∧ ((0 ≤ x ∧ x < g 1) ∧ (0 ≤ y ∧ y < g 1)) ∧ ¬ sp_btwF g x y = -1 ∧ v = sp_btwF g x y))) → Qx (k - 1).toNat (J1, L, nw_top W n2) := fun k J1 n2 h2 f1 hk => by
      obtain ⟨v, k1, hk⟩ := hk
      have e := ho k v hk
      rw [of_o, if_neg (by omega)] at e
      subst e
      exact hQ J1 L (nw_top W n2) (h.q f1 h2) rfl h2
    have kV : ∀ (v : Int) (J1 : Nat → Int → Int), sp_wrk J J1 → (∃ k : Int, k = 0 ∧ ((k = 1 ∧ ¬ ((0 ≤ x ∧ x < g 1) ∧ (0 ≤ y ∧ y < g 1))) ∨ (k = 5 ∧ ((0 ≤ x ∧ x < g 1) ∧ (0 ≤ y ∧ y < g 1)) ∧ sp_btwF g x y = -1) ∨ (k = 0 ∧ ((0 ≤ x ∧ x < g 1) ∧ (0 ≤ y ∧ y < g 1)) ∧ ¬ sp_btwF g x y = -1 ∧ v = sp_btwF g x y))) → Qr (some (.inl v)) (J1, L, W) := fun v J1 f1 hk => by
      obtain ⟨k, k0, hk⟩ := hk
      have e := ho k v hk
      rw [of_o, if_pos k0] at e
      subst e
      exact hQ J1 L W (h.q (n := W.2.2.2.2) f1 (Nat.le_refl _)) rfl (Nat.le_refl _)
    refine b_X11_channelBetween_0 (by decide) (by decide) (by decide) ?_
    (repeat' (first | refine And.intro ?_ ?_ | refine fun _ => ?_))
    all_goals first | omega | (exfalso; omega) | exact kE 1 J _ (by assumption) sp_wrk.refl ⟨0, by omega⟩ | (refine t_X9_findChannel R I (by omega) (by decide) (fun r hr => ?_); have er := sp_btwF_eq hr; refine b_X11_channelBetween_22 (by decide) (by decide) (by decide) ?_; ((repeat' (first | refine And.intro ?_ ?_ | refine fun _ => ?_)); all_goals first | omega | (exfalso; omega) | exact kE 5 J _ (by assumption) sp_wrk.refl ⟨0, by omega⟩ | exact kV _ J sp_wrk.refl ⟨0, by omega⟩))
theorem q_channelBetween_u {w : of_S} {x y : Int} {k v k' v' : Int} (h : q_channelBetween_s w x y k v) (h' : q_channelBetween_s w x y k' v') : k = k' ∧ (k = 0 → v = v') := by
  unfold q_channelBetween_s at h h'
  omega
def q_tide_s (w : of_S) (x : Int) (k v : Int) : Prop := ((k = 2 ∧ ¬ (0 ≤ x ∧ x ≤ 9999)) ∨ (k = 0 ∧ (0 ≤ x ∧ x ≤ 9999) ∧ v = sp_tide x))
theorem q_tide {w : of_S} {x : Int} {o : Nat ⊕ Option nw_V} (ho : ∀ k v, q_tide_s w x k v → o = of_o k v) : of_call d_X11_tide [.inl x] w o w 0 := by
    unfold q_tide_s at ho
    intro sc J L W B Qr Qx h hB hQ
    show NW sc d_X11_tide 20 (0, [some (.inr (.inl (some 0))), some (.inl x)], [], (J, L, W), 4, 24) Qr Qx
    have hA := h.1
    have R := sp_sh2.mp hA.1.1
    have I := hA.1.2.1
    obtain ⟨g, hg⟩ : ∃ g, g = w.1.1 := ⟨_, rfl⟩
    rw [← hg] at R I
    try rw [← hg] at ho
    have hbd := I.bd
    have hho := I.ho
    have hcr := I.cr
    have hch := I.ch
    have hfe := I.fe
    have hmo := I.mo
    have hnx := I.nx
    have c1 := R.cr
    have c2 := R.ch
    have c3 := R.fe
    have c4 := R.mo
    have c5 := R.ho
    have kE : ∀ (k : Int) (J1 : Nat → Int → Int) n2, W.2.2.2.2 ≤ n2 → sp_wrk J J1 → (∃ v : Int, 1 ≤ k ∧ ((k = 2 ∧ ¬ (0 ≤ x ∧ x ≤ 9999)) ∨ (k = 0 ∧ (0 ≤ x ∧ x ≤ 9999) ∧ v = sp_tide x))) → Qx (k - 1).toNat (J1, L, nw_top W n2) := fun k J1 n2 h2 f1 hk => by
      obtain ⟨v, k1, hk⟩ := hk
      have e := ho k v hk
      rw [of_o, if_neg (by omega)] at e
      subst e
      exact hQ J1 L (nw_top W n2) (h.q f1 h2) rfl h2
    have kV : ∀ (v : Int) (J1 : Nat → Int → Int), sp_wrk J J1 → (∃ k : Int, k = 0 ∧ ((k = 2 ∧ ¬ (0 ≤ x ∧ x ≤ 9999)) ∨ (k = 0 ∧ (0 ≤ x ∧ x ≤ 9999) ∧ v = sp_tide x))) → Qr (some (.inl v)) (J1, L, W) := fun v J1 f1 hk => by
      obtain ⟨k, k0, hk⟩ := hk
      have e := ho k v hk
      rw [of_o, if_pos k0] at e
      subst e
      exact hQ J1 L W (h.q (n := W.2.2.2.2) f1 (Nat.le_refl _)) rfl (Nat.le_refl _)
    refine b_X11_tide_0 (by decide) (by decide) (by decide) ?_
    (repeat' (first | refine And.intro ?_ ?_ | refine fun _ => ?_))
    all_goals first | omega | (exfalso; omega) | exact kE 2 J _ (by assumption) sp_wrk.refl ⟨0, by omega⟩ | (refine t_tideIn (by omega) (by decide) (b_X11_tide_23 ?_); exact kV _ J sp_wrk.refl ⟨0, by omega⟩)
theorem q_tide_u {w : of_S} {x : Int} {k v k' v' : Int} (h : q_tide_s w x k v) (h' : q_tide_s w x k' v') : k = k' ∧ (k = 0 → v = v') := by
  unfold q_tide_s at h h'
  omega
def q_wayHours_s (w : of_S) (x : Int) (y : Int) (k v : Int) : Prop := ((k = 1 ∧ ¬ ((0 ≤ x ∧ x < w.1.1 1) ∧ (0 ≤ y ∧ y < w.1.1 1))) ∨ (k = 5 ∧ ((0 ≤ x ∧ x < w.1.1 1) ∧ (0 ≤ y ∧ y < w.1.1 1)) ∧ sp_D w.1.1 x y = 10000) ∨ (k = 0 ∧ ((0 ≤ x ∧ x < w.1.1 1) ∧ (0 ≤ y ∧ y < w.1.1 1)) ∧ ¬ sp_D w.1.1 x y = 10000 ∧ v = sp_D w.1.1 x y))
theorem q_wayHours {w : of_S} {x y : Int} {o : Nat ⊕ Option nw_V} (ho : ∀ k v, q_wayHours_s w x y k v → o = of_o k v) : of_call d_X11_wayHours [.inl x, .inl y] w o w 0 := by
    unfold q_wayHours_s at ho
    intro sc J L W B Qr Qx h hB hQ
    show NW sc d_X11_wayHours 20 (0, [some (.inr (.inl (some 0))), some (.inl x), some (.inl y)], [], (J, L, W), 4, 24) Qr Qx
    have hA := h.1
    have R := sp_sh2.mp hA.1.1
    have I := hA.1.2.1
    obtain ⟨g, hg⟩ : ∃ g, g = w.1.1 := ⟨_, rfl⟩
    rw [← hg] at R I
    try rw [← hg] at ho
    have hbd := I.bd
    have hho := I.ho
    have hcr := I.cr
    have hch := I.ch
    have hfe := I.fe
    have hmo := I.mo
    have hnx := I.nx
    have c1 := R.cr
    have c2 := R.ch
    have c3 := R.fe
    have c4 := R.mo
    have c5 := R.ho
    have db := sp_D_bd I x y
    have dn := sp_D_nn I x y
    have en : (sp_D g x y = 10000 ∧ sp_enc (sp_D g x y) = -1) ∨ (¬ sp_D g x y = 10000 ∧ sp_enc (sp_D g x y) = sp_D g x y) := by
      by_cases z : sp_D g x y = 10000
      · exact Or.inl ⟨z, if_pos z⟩
      · exact Or.inr ⟨z, if_neg z⟩
    have kE : ∀ (k : Int) (J1 : Nat → Int → Int) n2, W.2.2.2.2 ≤ n2 → sp_wrk J J1 → (∃ v : Int, 1 ≤ k ∧ ((k = 1 ∧ ¬ ((0 ≤ x ∧ x < g 1) ∧ (0 ≤ y ∧ y < g 1))) ∨ (k = 5 ∧ ((0 ≤ x ∧ x < g 1) ∧ (0 ≤ y ∧ y < g 1)) ∧ sp_D g x y = 10000) ∨ (k = 0 ∧ ((0 ≤ x ∧ x < g 1) ∧ (0 ≤ y ∧ y < g 1)) ∧ ¬ sp_D g x y = 10000 ∧ v = sp_D g x y))) → Qx (k - 1).toNat (J1, L, nw_top W n2) := fun k J1 n2 h2 f1 hk => by
      obtain ⟨v, k1, hk⟩ := hk
      have e := ho k v hk
      rw [of_o, if_neg (by omega)] at e
      subst e
      exact hQ J1 L (nw_top W n2) (h.q f1 h2) rfl h2
    have kV : ∀ (v : Int) (J1 : Nat → Int → Int), sp_wrk J J1 → (∃ k : Int, k = 0 ∧ ((k = 1 ∧ ¬ ((0 ≤ x ∧ x < g 1) ∧ (0 ≤ y ∧ y < g 1))) ∨ (k = 5 ∧ ((0 ≤ x ∧ x < g 1) ∧ (0 ≤ y ∧ y < g 1)) ∧ sp_D g x y = 10000) ∨ (k = 0 ∧ ((0 ≤ x ∧ x < g 1) ∧ (0 ≤ y ∧ y < g 1)) ∧ ¬ sp_D g x y = 10000 ∧ v = sp_D g x y))) → Qr (some (.inl v)) (J1, L, W) := fun v J1 f1 hk => by
      obtain ⟨k, k0, hk⟩ := hk
      have e := ho k v hk
      rw [of_o, if_pos k0] at e
      subst e
      exact hQ J1 L W (h.q (n := W.2.2.2.2) f1 (Nat.le_refl _)) rfl (Nat.le_refl _)
    refine b_X11_wayHours_0 (by decide) (by decide) (by decide) ?_
    (repeat' (first | refine And.intro ?_ ?_ | refine fun _ => ?_))
    all_goals first | omega | (exfalso; omega) | exact kE 1 J _ (by assumption) sp_wrk.refl ⟨0, by omega⟩ | (refine t_X10_spreadFrom R I ⟨by omega, by omega⟩ (by decide) (fun J1 x1 h1 => ?_); have e1 := h1 y (by omega) (by omega); refine b_X11_wayHours_25 (by decide) (by decide) (by decide) ?_; ((repeat' (first | refine And.intro ?_ ?_ | refine fun _ => ?_)); all_goals first | omega | (exfalso; omega) | exact kE 5 J1 _ (by assumption) (fun z a => x1 z (by omega)) ⟨0, by omega⟩ | exact kV _ J1 (fun z a => x1 z (by omega)) ⟨0, by omega⟩))
theorem q_wayHours_u {w : of_S} {x y : Int} {k v k' v' : Int} (h : q_wayHours_s w x y k v) (h' : q_wayHours_s w x y k' v') : k = k' ∧ (k = 0 → v = v') := by
  unfold q_wayHours_s at h h'
  omega
def q_wayHoursByTable_s (w : of_S) (x : Int) (y : Int) (k v : Int) : Prop := ((k = 1 ∧ ¬ ((0 ≤ x ∧ x < w.1.1 1) ∧ (0 ≤ y ∧ y < w.1.1 1))) ∨ (k = 5 ∧ ((0 ≤ x ∧ x < w.1.1 1) ∧ (0 ≤ y ∧ y < w.1.1 1)) ∧ sp_D w.1.1 x y = 10000) ∨ (k = 0 ∧ ((0 ≤ x ∧ x < w.1.1 1) ∧ (0 ≤ y ∧ y < w.1.1 1)) ∧ ¬ sp_D w.1.1 x y = 10000 ∧ v = sp_D w.1.1 x y))
theorem q_wayHoursByTable {w : of_S} {x y : Int} {o : Nat ⊕ Option nw_V} (ho : ∀ k v, q_wayHoursByTable_s w x y k v → o = of_o k v) : of_call d_X11_wayHoursByTable [.inl x, .inl y] w o w 0 := by
    unfold q_wayHoursByTable_s at ho
    intro sc J L W B Qr Qx h hB hQ
    show NW sc d_X11_wayHoursByTable 20 (0, [some (.inr (.inl (some 0))), some (.inl x), some (.inl y)], [], (J, L, W), 4, 24) Qr Qx
    have hA := h.1
    have R := sp_sh2.mp hA.1.1
    have I := hA.1.2.1
    obtain ⟨g, hg⟩ : ∃ g, g = w.1.1 := ⟨_, rfl⟩
    rw [← hg] at R I
    try rw [← hg] at ho
    have hbd := I.bd
    have hho := I.ho
    have hcr := I.cr
    have hch := I.ch
    have hfe := I.fe
    have hmo := I.mo
    have hnx := I.nx
    have c1 := R.cr
    have c2 := R.ch
    have c3 := R.fe
    have c4 := R.mo
    have c5 := R.ho
    have db := sp_D_bd I x y
    have dn := sp_D_nn I x y
    have en : (sp_D g x y = 10000 ∧ sp_enc (sp_D g x y) = -1) ∨ (¬ sp_D g x y = 10000 ∧ sp_enc (sp_D g x y) = sp_D g x y) := by
      by_cases z : sp_D g x y = 10000
      · exact Or.inl ⟨z, if_pos z⟩
      · exact Or.inr ⟨z, if_neg z⟩
    have kE : ∀ (k : Int) (J1 : Nat → Int → Int) n2, W.2.2.2.2 ≤ n2 → sp_wrk J J1 → (∃ v : Int, 1 ≤ k ∧ ((k = 1 ∧ ¬ ((0 ≤ x ∧ x < g 1) ∧ (0 ≤ y ∧ y < g 1))) ∨ (k = 5 ∧ ((0 ≤ x ∧ x < g 1) ∧ (0 ≤ y ∧ y < g 1)) ∧ sp_D g x y = 10000) ∨ (k = 0 ∧ ((0 ≤ x ∧ x < g 1) ∧ (0 ≤ y ∧ y < g 1)) ∧ ¬ sp_D g x y = 10000 ∧ v = sp_D g x y))) → Qx (k - 1).toNat (J1, L, nw_top W n2) := fun k J1 n2 h2 f1 hk => by
      obtain ⟨v, k1, hk⟩ := hk
      have e := ho k v hk
      rw [of_o, if_neg (by omega)] at e
      subst e
      exact hQ J1 L (nw_top W n2) (h.q f1 h2) rfl h2
    have kV : ∀ (v : Int) (J1 : Nat → Int → Int), sp_wrk J J1 → (∃ k : Int, k = 0 ∧ ((k = 1 ∧ ¬ ((0 ≤ x ∧ x < g 1) ∧ (0 ≤ y ∧ y < g 1))) ∨ (k = 5 ∧ ((0 ≤ x ∧ x < g 1) ∧ (0 ≤ y ∧ y < g 1)) ∧ sp_D g x y = 10000) ∨ (k = 0 ∧ ((0 ≤ x ∧ x < g 1) ∧ (0 ≤ y ∧ y < g 1)) ∧ ¬ sp_D g x y = 10000 ∧ v = sp_D g x y))) → Qr (some (.inl v)) (J1, L, W) := fun v J1 f1 hk => by
      obtain ⟨k, k0, hk⟩ := hk
      have e := ho k v hk
      rw [of_o, if_pos k0] at e
      subst e
      exact hQ J1 L W (h.q (n := W.2.2.2.2) f1 (Nat.le_refl _)) rfl (Nat.le_refl _)
    refine b_X11_wayHoursByTable_0 (by decide) (by decide) (by decide) ?_
    (repeat' (first | refine And.intro ?_ ?_ | refine fun _ => ?_))
    all_goals first | omega | (exfalso; omega) | exact kE 1 J _ (by assumption) sp_wrk.refl ⟨0, by omega⟩ | (refine t_X10_fillTable R I (by decide) (fun J1 x1 h1 => ?_); have e1 := h1 x y (by omega) (by omega) (by omega) (by omega); refine b_X11_wayHoursByTable_24 (by decide) (by decide) (by decide) ?_; ((repeat' (first | refine And.intro ?_ ?_ | refine fun _ => ?_)); all_goals first | omega | (exfalso; omega) | exact kE 5 J1 _ (by assumption) (fun z a => x1 z (by omega)) ⟨0, by omega⟩ | exact kV _ J1 (fun z a => x1 z (by omega)) ⟨0, by omega⟩))
theorem q_wayHoursByTable_u {w : of_S} {x y : Int} {k v k' v' : Int} (h : q_wayHoursByTable_s w x y k v) (h' : q_wayHoursByTable_s w x y k' v') : k = k' ∧ (k = 0 → v = v') := by
  unfold q_wayHoursByTable_s at h h'
  omega
def q_loadOf_s (w : of_S) (x : Int) (k v : Int) : Prop := ((k = 1 ∧ ¬ (0 ≤ x ∧ x < w.1.1 3)) ∨ (k = 0 ∧ (0 ≤ x ∧ x < w.1.1 3) ∧ v = sp_car w.1.1 x))
theorem q_loadOf {w : of_S} {x : Int} {o : Nat ⊕ Option nw_V} (ho : ∀ k v, q_loadOf_s w x k v → o = of_o k v) : of_call d_X11_loadOf [.inl x] w o w 0 := by
    unfold q_loadOf_s at ho
    intro sc J L W B Qr Qx h hB hQ
    show NW sc d_X11_loadOf 20 (0, [some (.inr (.inl (some 0))), some (.inl x)], [], (J, L, W), 4, 24) Qr Qx
    have hA := h.1
    have R := sp_sh2.mp hA.1.1
    have I := hA.1.2.1
    obtain ⟨g, hg⟩ : ∃ g, g = w.1.1 := ⟨_, rfl⟩
    rw [← hg] at R I
    try rw [← hg] at ho
    have hbd := I.bd
    have hho := I.ho
    have hcr := I.cr
    have hch := I.ch
    have hfe := I.fe
    have hmo := I.mo
    have hnx := I.nx
    have c1 := R.cr
    have c2 := R.ch
    have c3 := R.fe
    have c4 := R.mo
    have c5 := R.ho
    have kE : ∀ (k : Int) (J1 : Nat → Int → Int) n2, W.2.2.2.2 ≤ n2 → sp_wrk J J1 → (∃ v : Int, 1 ≤ k ∧ ((k = 1 ∧ ¬ (0 ≤ x ∧ x < g 3)) ∨ (k = 0 ∧ (0 ≤ x ∧ x < g 3) ∧ v = sp_car g x))) → Qx (k - 1).toNat (J1, L, nw_top W n2) := fun k J1 n2 h2 f1 hk => by
      obtain ⟨v, k1, hk⟩ := hk
      have e := ho k v hk
      rw [of_o, if_neg (by omega)] at e
      subst e
      exact hQ J1 L (nw_top W n2) (h.q f1 h2) rfl h2
    have kV : ∀ (v : Int) (J1 : Nat → Int → Int), sp_wrk J J1 → (∃ k : Int, k = 0 ∧ ((k = 1 ∧ ¬ (0 ≤ x ∧ x < g 3)) ∨ (k = 0 ∧ (0 ≤ x ∧ x < g 3) ∧ v = sp_car g x))) → Qr (some (.inl v)) (J1, L, W) := fun v J1 f1 hk => by
      obtain ⟨k, k0, hk⟩ := hk
      have e := ho k v hk
      rw [of_o, if_pos k0] at e
      subst e
      exact hQ J1 L W (h.q (n := W.2.2.2.2) f1 (Nat.le_refl _)) rfl (Nat.le_refl _)
    refine b_X11_loadOf_0 (by decide) (by decide) (by decide) ?_
    (repeat' (first | refine And.intro ?_ ?_ | refine fun _ => ?_))
    all_goals first | omega | (exfalso; omega) | exact kE 1 J _ (by assumption) sp_wrk.refl ⟨0, by omega⟩ | (refine t_X7_weightAboard R I (by omega) (b_X11_loadOf_16 ?_); exact kV _ J sp_wrk.refl ⟨0, by omega⟩)
theorem q_loadOf_u {w : of_S} {x : Int} {k v k' v' : Int} (h : q_loadOf_s w x k v) (h' : q_loadOf_s w x k' v') : k = k' ∧ (k = 0 → v = v') := by
  unfold q_loadOf_s at h h'
  omega
def q_bestLoad_s (w : of_S) (x : Int) (k v : Int) : Prop := ((k = 1 ∧ ¬ (0 ≤ x ∧ x < w.1.1 3)) ∨ (k = 3 ∧ (0 ≤ x ∧ x < w.1.1 3) ∧ 0 < w.1.1 (62 + x)) ∨ (k = 0 ∧ (0 ≤ x ∧ x < w.1.1 3) ∧ w.1.1 (62 + x) ≤ 0 ∧ v = (sp_best w.1.1 x).1))
theorem q_bestLoad {w : of_S} {x : Int} {o : Nat ⊕ Option nw_V} (ho : ∀ k v, q_bestLoad_s w x k v → o = of_o k v) : of_call d_X11_bestLoad [.inl x] w o w 0 := by
    unfold q_bestLoad_s at ho
    intro sc J L W B Qr Qx h hB hQ
    show NW sc d_X11_bestLoad 20 (0, [some (.inr (.inl (some 0))), some (.inl x)], [], (J, L, W), 4, 24) Qr Qx
    have hA := h.1
    have R := sp_sh2.mp hA.1.1
    have I := hA.1.2.1
    obtain ⟨g, hg⟩ : ∃ g, g = w.1.1 := ⟨_, rfl⟩
    rw [← hg] at R I
    try rw [← hg] at ho
    have hbd := I.bd
    have hho := I.ho
    have hcr := I.cr
    have hch := I.ch
    have hfe := I.fe
    have hmo := I.mo
    have hnx := I.nx
    have c1 := R.cr
    have c2 := R.ch
    have c3 := R.fe
    have c4 := R.mo
    have c5 := R.ho
    have f1 := R.fer x
    have f2 := I.fer x
    have kE : ∀ (k : Int) (J1 : Nat → Int → Int) n2, W.2.2.2.2 ≤ n2 → sp_wrk J J1 → (∃ v : Int, 1 ≤ k ∧ ((k = 1 ∧ ¬ (0 ≤ x ∧ x < g 3)) ∨ (k = 3 ∧ (0 ≤ x ∧ x < g 3) ∧ 0 < g (62 + x)) ∨ (k = 0 ∧ (0 ≤ x ∧ x < g 3) ∧ g (62 + x) ≤ 0 ∧ v = (sp_best g x).1))) → Qx (k - 1).toNat (J1, L, nw_top W n2) := fun k J1 n2 h2 f1 hk => by
      obtain ⟨v, k1, hk⟩ := hk
      have e := ho k v hk
      rw [of_o, if_neg (by omega)] at e
      subst e
      exact hQ J1 L (nw_top W n2) (h.q f1 h2) rfl h2
    have kV : ∀ (v : Int) (J1 : Nat → Int → Int), sp_wrk J J1 → (∃ k : Int, k = 0 ∧ ((k = 1 ∧ ¬ (0 ≤ x ∧ x < g 3)) ∨ (k = 3 ∧ (0 ≤ x ∧ x < g 3) ∧ 0 < g (62 + x)) ∨ (k = 0 ∧ (0 ≤ x ∧ x < g 3) ∧ g (62 + x) ≤ 0 ∧ v = (sp_best g x).1))) → Qr (some (.inl v)) (J1, L, W) := fun v J1 f1 hk => by
      obtain ⟨k, k0, hk⟩ := hk
      have e := ho k v hk
      rw [of_o, if_pos k0] at e
      subst e
      exact hQ J1 L W (h.q (n := W.2.2.2.2) f1 (Nat.le_refl _)) rfl (Nat.le_refl _)
    refine b_X11_bestLoad_0 (by decide) (by decide) (by decide) ?_
    (repeat' (first | refine And.intro ?_ ?_ | refine fun _ => ?_))
    all_goals first | omega | (exfalso; omega) | exact kE 1 J _ (by assumption) sp_wrk.refl ⟨0, by omega⟩ | exact kE 3 J _ (by assumption) sp_wrk.refl ⟨0, by omega⟩ | (refine t_X6_gather R I ⟨by omega, by omega⟩ (by unfold sp_sea; omega) (by decide) (fun J1 n x1 hn hroom hl => ?_); refine b_X11_bestLoad_22 (by decide) ?_; refine t_X6_sumByDeciding I ⟨by omega, by omega⟩ hn hroom hl (by decide) (fun J2 x2 y2 hb hS => ?_); refine b_X11_bestLoad_29 ?_; exact kV _ J2 (fun z a => by rw [x2 z (by omega), x1 z (by unfold sp_glF; omega)]) ⟨0, by omega⟩)
theorem q_bestLoad_u {w : of_S} {x : Int} {k v k' v' : Int} (h : q_bestLoad_s w x k v) (h' : q_bestLoad_s w x k' v') : k = k' ∧ (k = 0 → v = v') := by
  unfold q_bestLoad_s at h h'
  omega
def q_bestLoadByTable_s (w : of_S) (x : Int) (k v : Int) : Prop := ((k = 1 ∧ ¬ (0 ≤ x ∧ x < w.1.1 3)) ∨ (k = 3 ∧ (0 ≤ x ∧ x < w.1.1 3) ∧ 0 < w.1.1 (62 + x)) ∨ (k = 0 ∧ (0 ≤ x ∧ x < w.1.1 3) ∧ w.1.1 (62 + x) ≤ 0 ∧ v = (sp_best w.1.1 x).1))
theorem q_bestLoadByTable {w : of_S} {x : Int} {o : Nat ⊕ Option nw_V} (ho : ∀ k v, q_bestLoadByTable_s w x k v → o = of_o k v) : of_call d_X11_bestLoadByTable [.inl x] w o w 0 := by
    unfold q_bestLoadByTable_s at ho
    intro sc J L W B Qr Qx h hB hQ
    show NW sc d_X11_bestLoadByTable 20 (0, [some (.inr (.inl (some 0))), some (.inl x)], [], (J, L, W), 4, 24) Qr Qx
    have hA := h.1
    have R := sp_sh2.mp hA.1.1
    have I := hA.1.2.1
    obtain ⟨g, hg⟩ : ∃ g, g = w.1.1 := ⟨_, rfl⟩
    rw [← hg] at R I
    try rw [← hg] at ho
    have hbd := I.bd
    have hho := I.ho
    have hcr := I.cr
    have hch := I.ch
    have hfe := I.fe
    have hmo := I.mo
    have hnx := I.nx
    have c1 := R.cr
    have c2 := R.ch
    have c3 := R.fe
    have c4 := R.mo
    have c5 := R.ho
    have f1 := R.fer x
    have f2 := I.fer x
    have kE : ∀ (k : Int) (J1 : Nat → Int → Int) n2, W.2.2.2.2 ≤ n2 → sp_wrk J J1 → (∃ v : Int, 1 ≤ k ∧ ((k = 1 ∧ ¬ (0 ≤ x ∧ x < g 3)) ∨ (k = 3 ∧ (0 ≤ x ∧ x < g 3) ∧ 0 < g (62 + x)) ∨ (k = 0 ∧ (0 ≤ x ∧ x < g 3) ∧ g (62 + x) ≤ 0 ∧ v = (sp_best g x).1))) → Qx (k - 1).toNat (J1, L, nw_top W n2) := fun k J1 n2 h2 f1 hk => by
      obtain ⟨v, k1, hk⟩ := hk
      have e := ho k v hk
      rw [of_o, if_neg (by omega)] at e
      subst e
      exact hQ J1 L (nw_top W n2) (h.q f1 h2) rfl h2
    have kV : ∀ (v : Int) (J1 : Nat → Int → Int), sp_wrk J J1 → (∃ k : Int, k = 0 ∧ ((k = 1 ∧ ¬ (0 ≤ x ∧ x < g 3)) ∨ (k = 3 ∧ (0 ≤ x ∧ x < g 3) ∧ 0 < g (62 + x)) ∨ (k = 0 ∧ (0 ≤ x ∧ x < g 3) ∧ g (62 + x) ≤ 0 ∧ v = (sp_best g x).1))) → Qr (some (.inl v)) (J1, L, W) := fun v J1 f1 hk => by
      obtain ⟨k, k0, hk⟩ := hk
      have e := ho k v hk
      rw [of_o, if_pos k0] at e
      subst e
      exact hQ J1 L W (h.q (n := W.2.2.2.2) f1 (Nat.le_refl _)) rfl (Nat.le_refl _)
    refine b_X11_bestLoadByTable_0 (by decide) (by decide) (by decide) ?_
    (repeat' (first | refine And.intro ?_ ?_ | refine fun _ => ?_))
    all_goals first | omega | (exfalso; omega) | exact kE 1 J _ (by assumption) sp_wrk.refl ⟨0, by omega⟩ | exact kE 3 J _ (by assumption) sp_wrk.refl ⟨0, by omega⟩ | (refine t_X6_gather R I ⟨by omega, by omega⟩ (by unfold sp_sea; omega) (by decide) (fun J1 n x1 hn hroom hl => ?_); refine b_X11_bestLoadByTable_22 (by decide) ?_; refine t_X6_sumByTable I ⟨by omega, by omega⟩ hn hroom hl (by decide) (fun J2 x2 => ?_); refine b_X11_bestLoadByTable_29 ?_; exact kV _ J2 (fun z a => by rw [x2 z (by omega), x1 z (by unfold sp_glF; omega)]) ⟨0, by omega⟩)
theorem q_bestLoadByTable_u {w : of_S} {x : Int} {k v k' v' : Int} (h : q_bestLoadByTable_s w x k v) (h' : q_bestLoadByTable_s w x k' v') : k = k' ∧ (k = 0 → v = v') := by
  unfold q_bestLoadByTable_s at h h'
  omega
def q_ferryOf_s (w : of_S) (x : Int) (k v : Int) : Prop := ((k = 5 ∧ sp_plcF w.1.1 x = -1) ∨ (k = 3 ∧ ¬ sp_plcF w.1.1 x = -1 ∧ w.1.1 (121 + sp_plcF w.1.1 x) < 10) ∨ (k = 0 ∧ ¬ sp_plcF w.1.1 x = -1 ∧ 10 ≤ w.1.1 (121 + sp_plcF w.1.1 x) ∧ v = w.1.1 (121 + sp_plcF w.1.1 x) - 10))
theorem q_ferryOf {w : of_S} {x : Int} {o : Nat ⊕ Option nw_V} (ho : ∀ k v, q_ferryOf_s w x k v → o = of_o k v) : of_call d_X11_ferryOf [.inl x] w o w 0 := by
    unfold q_ferryOf_s at ho
    intro sc J L W B Qr Qx h hB hQ
    show NW sc d_X11_ferryOf 20 (0, [some (.inr (.inl (some 0))), some (.inl x), none], [], (J, L, W), 4, 24) Qr Qx
    have hA := h.1
    have R := sp_sh2.mp hA.1.1
    have I := hA.1.2.1
    obtain ⟨g, hg⟩ : ∃ g, g = w.1.1 := ⟨_, rfl⟩
    rw [← hg] at R I
    try rw [← hg] at ho
    have hbd := I.bd
    have hho := I.ho
    have hcr := I.cr
    have hch := I.ch
    have hfe := I.fe
    have hmo := I.mo
    have hnx := I.nx
    have c1 := R.cr
    have c2 := R.ch
    have c3 := R.fe
    have c4 := R.mo
    have c5 := R.ho
    have pr := sp_plcF_rng g x
    have f1 := R.moo (sp_plcF g x)
    have f2 := I.moo (sp_plcF g x)
    have kE : ∀ (k : Int) (J1 : Nat → Int → Int) n2, W.2.2.2.2 ≤ n2 → sp_wrk J J1 → (∃ v : Int, 1 ≤ k ∧ ((k = 5 ∧ sp_plcF g x = -1) ∨ (k = 3 ∧ ¬ sp_plcF g x = -1 ∧ g (121 + sp_plcF g x) < 10) ∨ (k = 0 ∧ ¬ sp_plcF g x = -1 ∧ 10 ≤ g (121 + sp_plcF g x) ∧ v = g (121 + sp_plcF g x) - 10))) → Qx (k - 1).toNat (J1, L, nw_top W n2) := fun k J1 n2 h2 f1 hk => by
      obtain ⟨v, k1, hk⟩ := hk
      have e := ho k v hk
      rw [of_o, if_neg (by omega)] at e
      subst e
      exact hQ J1 L (nw_top W n2) (h.q f1 h2) rfl h2
    have kV : ∀ (v : Int) (J1 : Nat → Int → Int), sp_wrk J J1 → (∃ k : Int, k = 0 ∧ ((k = 5 ∧ sp_plcF g x = -1) ∨ (k = 3 ∧ ¬ sp_plcF g x = -1 ∧ g (121 + sp_plcF g x) < 10) ∨ (k = 0 ∧ ¬ sp_plcF g x = -1 ∧ 10 ≤ g (121 + sp_plcF g x) ∧ v = g (121 + sp_plcF g x) - 10))) → Qr (some (.inl v)) (J1, L, W) := fun v J1 f1 hk => by
      obtain ⟨k, k0, hk⟩ := hk
      have e := ho k v hk
      rw [of_o, if_pos k0] at e
      subst e
      exact hQ J1 L W (h.q (n := W.2.2.2.2) f1 (Nat.le_refl _)) rfl (Nat.le_refl _)
    refine b_X11_ferryOf_0 (by decide) (by decide) (by decide) (b_X11_placeOfMoon_0 (by decide) (t_X7_placeOf R I (fun r hr => ?_)))
    have er := sp_plcF_eq hr
    subst er
    refine b_X11_placeOfMoon_11 (by decide) (by decide) (by decide) ?_
    (repeat' (first | refine And.intro ?_ ?_ | refine fun _ => ?_))
    all_goals first | omega | (exfalso; omega) | exact kE 5 J _ (by assumption) sp_wrk.refl ⟨0, by omega⟩ | (refine b_X11_ferryOf_15 (by decide) (by decide) ?_; ((repeat' (first | refine And.intro ?_ ?_ | refine fun _ => ?_)); all_goals first | omega | (exfalso; omega) | exact kE 3 J _ (by assumption) sp_wrk.refl ⟨0, by omega⟩ | exact kV _ J sp_wrk.refl ⟨0, by omega⟩))
theorem q_ferryOf_u {w : of_S} {x : Int} {k v k' v' : Int} (h : q_ferryOf_s w x k v) (h' : q_ferryOf_s w x k' v') : k = k' ∧ (k = 0 → v = v') := by
  unfold q_ferryOf_s at h h'
  omega
def q_shoreOf_s (w : of_S) (x : Int) (k v : Int) : Prop := ((k = 5 ∧ sp_plcF w.1.1 x = -1) ∨ (k = 3 ∧ ¬ sp_plcF w.1.1 x = -1 ∧ 10 ≤ w.1.1 (121 + sp_plcF w.1.1 x)) ∨ (k = 0 ∧ ¬ sp_plcF w.1.1 x = -1 ∧ w.1.1 (121 + sp_plcF w.1.1 x) < 10 ∧ v = w.1.1 (121 + sp_plcF w.1.1 x)))
theorem q_shoreOf {w : of_S} {x : Int} {o : Nat ⊕ Option nw_V} (ho : ∀ k v, q_shoreOf_s w x k v → o = of_o k v) : of_call d_X11_shoreOf [.inl x] w o w 0 := by
    unfold q_shoreOf_s at ho
    intro sc J L W B Qr Qx h hB hQ
    show NW sc d_X11_shoreOf 20 (0, [some (.inr (.inl (some 0))), some (.inl x), none], [], (J, L, W), 4, 24) Qr Qx
    have hA := h.1
    have R := sp_sh2.mp hA.1.1
    have I := hA.1.2.1
    obtain ⟨g, hg⟩ : ∃ g, g = w.1.1 := ⟨_, rfl⟩
    rw [← hg] at R I
    try rw [← hg] at ho
    have hbd := I.bd
    have hho := I.ho
    have hcr := I.cr
    have hch := I.ch
    have hfe := I.fe
    have hmo := I.mo
    have hnx := I.nx
    have c1 := R.cr
    have c2 := R.ch
    have c3 := R.fe
    have c4 := R.mo
    have c5 := R.ho
    have pr := sp_plcF_rng g x
    have f1 := R.moo (sp_plcF g x)
    have f2 := I.moo (sp_plcF g x)
    have kE : ∀ (k : Int) (J1 : Nat → Int → Int) n2, W.2.2.2.2 ≤ n2 → sp_wrk J J1 → (∃ v : Int, 1 ≤ k ∧ ((k = 5 ∧ sp_plcF g x = -1) ∨ (k = 3 ∧ ¬ sp_plcF g x = -1 ∧ 10 ≤ g (121 + sp_plcF g x)) ∨ (k = 0 ∧ ¬ sp_plcF g x = -1 ∧ g (121 + sp_plcF g x) < 10 ∧ v = g (121 + sp_plcF g x)))) → Qx (k - 1).toNat (J1, L, nw_top W n2) := fun k J1 n2 h2 f1 hk => by
      obtain ⟨v, k1, hk⟩ := hk
      have e := ho k v hk
      rw [of_o, if_neg (by omega)] at e
      subst e
      exact hQ J1 L (nw_top W n2) (h.q f1 h2) rfl h2
    have kV : ∀ (v : Int) (J1 : Nat → Int → Int), sp_wrk J J1 → (∃ k : Int, k = 0 ∧ ((k = 5 ∧ sp_plcF g x = -1) ∨ (k = 3 ∧ ¬ sp_plcF g x = -1 ∧ 10 ≤ g (121 + sp_plcF g x)) ∨ (k = 0 ∧ ¬ sp_plcF g x = -1 ∧ g (121 + sp_plcF g x) < 10 ∧ v = g (121 + sp_plcF g x)))) → Qr (some (.inl v)) (J1, L, W) := fun v J1 f1 hk => by
      obtain ⟨k, k0, hk⟩ := hk
      have e := ho k v hk
      rw [of_o, if_pos k0] at e
      subst e
      exact hQ J1 L W (h.q (n := W.2.2.2.2) f1 (Nat.le_refl _)) rfl (Nat.le_refl _)
    refine b_X11_shoreOf_0 (by decide) (by decide) (by decide) (b_X11_placeOfMoon_0 (by decide) (t_X7_placeOf R I (fun r hr => ?_)))
    have er := sp_plcF_eq hr
    subst er
    refine b_X11_placeOfMoon_11 (by decide) (by decide) (by decide) ?_
    (repeat' (first | refine And.intro ?_ ?_ | refine fun _ => ?_))
    all_goals first | omega | (exfalso; omega) | exact kE 5 J _ (by assumption) sp_wrk.refl ⟨0, by omega⟩ | (refine b_X11_shoreOf_15 (by decide) (by decide) ?_; ((repeat' (first | refine And.intro ?_ ?_ | refine fun _ => ?_)); all_goals first | omega | (exfalso; omega) | exact kE 3 J _ (by assumption) sp_wrk.refl ⟨0, by omega⟩ | exact kV _ J sp_wrk.refl ⟨0, by omega⟩))
theorem q_shoreOf_u {w : of_S} {x : Int} {k v k' v' : Int} (h : q_shoreOf_s w x k v) (h' : q_shoreOf_s w x k' v') : k = k' ∧ (k = 0 → v = v') := by
  unfold q_shoreOf_s at h h'
  omega
def q_phaseOf_s (w : of_S) (x : Int) (k v : Int) : Prop := ((k = 5 ∧ sp_plcF w.1.1 x = -1) ∨ (k = 0 ∧ ¬ sp_plcF w.1.1 x = -1 ∧ v = w.1.1 (111 + sp_plcF w.1.1 x)))
theorem q_phaseOf {w : of_S} {x : Int} {o : Nat ⊕ Option nw_V} (ho : ∀ k v, q_phaseOf_s w x k v → o = of_o k v) : of_call d_X11_phaseOf [.inl x] w o w 0 := by
    unfold q_phaseOf_s at ho
    intro sc J L W B Qr Qx h hB hQ
    show NW sc d_X11_phaseOf 20 (0, [some (.inr (.inl (some 0))), some (.inl x)], [], (J, L, W), 4, 24) Qr Qx
    have hA := h.1
    have R := sp_sh2.mp hA.1.1
    have I := hA.1.2.1
    obtain ⟨g, hg⟩ : ∃ g, g = w.1.1 := ⟨_, rfl⟩
    rw [← hg] at R I
    try rw [← hg] at ho
    have hbd := I.bd
    have hho := I.ho
    have hcr := I.cr
    have hch := I.ch
    have hfe := I.fe
    have hmo := I.mo
    have hnx := I.nx
    have c1 := R.cr
    have c2 := R.ch
    have c3 := R.fe
    have c4 := R.mo
    have c5 := R.ho
    have pr := sp_plcF_rng g x
    have f1 := R.moo (sp_plcF g x)
    have f2 := I.moo (sp_plcF g x)
    have kE : ∀ (k : Int) (J1 : Nat → Int → Int) n2, W.2.2.2.2 ≤ n2 → sp_wrk J J1 → (∃ v : Int, 1 ≤ k ∧ ((k = 5 ∧ sp_plcF g x = -1) ∨ (k = 0 ∧ ¬ sp_plcF g x = -1 ∧ v = g (111 + sp_plcF g x)))) → Qx (k - 1).toNat (J1, L, nw_top W n2) := fun k J1 n2 h2 f1 hk => by
      obtain ⟨v, k1, hk⟩ := hk
      have e := ho k v hk
      rw [of_o, if_neg (by omega)] at e
      subst e
      exact hQ J1 L (nw_top W n2) (h.q f1 h2) rfl h2
    have kV : ∀ (v : Int) (J1 : Nat → Int → Int), sp_wrk J J1 → (∃ k : Int, k = 0 ∧ ((k = 5 ∧ sp_plcF g x = -1) ∨ (k = 0 ∧ ¬ sp_plcF g x = -1 ∧ v = g (111 + sp_plcF g x)))) → Qr (some (.inl v)) (J1, L, W) := fun v J1 f1 hk => by
      obtain ⟨k, k0, hk⟩ := hk
      have e := ho k v hk
      rw [of_o, if_pos k0] at e
      subst e
      exact hQ J1 L W (h.q (n := W.2.2.2.2) f1 (Nat.le_refl _)) rfl (Nat.le_refl _)
    refine b_X11_phaseOf_0 (by decide) (by decide) (by decide) (b_X11_placeOfMoon_0 (by decide) (t_X7_placeOf R I (fun r hr => ?_)))
    have er := sp_plcF_eq hr
    subst er
    refine b_X11_placeOfMoon_11 (by decide) (by decide) (by decide) ?_
    (repeat' (first | refine And.intro ?_ ?_ | refine fun _ => ?_))
    all_goals first | omega | (exfalso; omega) | exact kE 5 J _ (by assumption) sp_wrk.refl ⟨0, by omega⟩ | (refine b_X11_phaseOf_15 ?_; ((repeat' (first | refine And.intro ?_ ?_ | refine fun _ => ?_)); all_goals first | omega | (exfalso; omega) | exact kV _ J sp_wrk.refl ⟨0, by omega⟩))
theorem q_phaseOf_u {w : of_S} {x : Int} {k v k' v' : Int} (h : q_phaseOf_s w x k v) (h' : q_phaseOf_s w x k' v') : k = k' ∧ (k = 0 → v = v') := by
  unfold q_phaseOf_s at h h'
  omega
def q_fareOf_s (w : of_S) (x : Int) (k v : Int) : Prop := ((k = 5 ∧ sp_plcF w.1.1 x = -1) ∨ (k = 0 ∧ ¬ sp_plcF w.1.1 x = -1 ∧ v = sp_fare w.1.1 (sp_plcF w.1.1 x)))
theorem q_fareOf {w : of_S} {x : Int} {o : Nat ⊕ Option nw_V} (ho : ∀ k v, q_fareOf_s w x k v → o = of_o k v) : of_call d_X11_fareOf [.inl x] w o w 0 := by
    unfold q_fareOf_s at ho
    intro sc J L W B Qr Qx h hB hQ
    show NW sc d_X11_fareOf 20 (0, [some (.inr (.inl (some 0))), some (.inl x)], [], (J, L, W), 4, 24) Qr Qx
    have hA := h.1
    have R := sp_sh2.mp hA.1.1
    have I := hA.1.2.1
    obtain ⟨g, hg⟩ : ∃ g, g = w.1.1 := ⟨_, rfl⟩
    rw [← hg] at R I
    try rw [← hg] at ho
    have hbd := I.bd
    have hho := I.ho
    have hcr := I.cr
    have hch := I.ch
    have hfe := I.fe
    have hmo := I.mo
    have hnx := I.nx
    have c1 := R.cr
    have c2 := R.ch
    have c3 := R.fe
    have c4 := R.mo
    have c5 := R.ho
    have pr := sp_plcF_rng g x
    have f1 := R.moo (sp_plcF g x)
    have f2 := I.moo (sp_plcF g x)
    have kE : ∀ (k : Int) (J1 : Nat → Int → Int) n2, W.2.2.2.2 ≤ n2 → sp_wrk J J1 → (∃ v : Int, 1 ≤ k ∧ ((k = 5 ∧ sp_plcF g x = -1) ∨ (k = 0 ∧ ¬ sp_plcF g x = -1 ∧ v = sp_fare g (sp_plcF g x)))) → Qx (k - 1).toNat (J1, L, nw_top W n2) := fun k J1 n2 h2 f1 hk => by
      obtain ⟨v, k1, hk⟩ := hk
      have e := ho k v hk
      rw [of_o, if_neg (by omega)] at e
      subst e
      exact hQ J1 L (nw_top W n2) (h.q f1 h2) rfl h2
    have kV : ∀ (v : Int) (J1 : Nat → Int → Int), sp_wrk J J1 → (∃ k : Int, k = 0 ∧ ((k = 5 ∧ sp_plcF g x = -1) ∨ (k = 0 ∧ ¬ sp_plcF g x = -1 ∧ v = sp_fare g (sp_plcF g x)))) → Qr (some (.inl v)) (J1, L, W) := fun v J1 f1 hk => by
      obtain ⟨k, k0, hk⟩ := hk
      have e := ho k v hk
      rw [of_o, if_pos k0] at e
      subst e
      exact hQ J1 L W (h.q (n := W.2.2.2.2) f1 (Nat.le_refl _)) rfl (Nat.le_refl _)
    refine b_X11_fareOf_0 (by decide) (by decide) (by decide) (b_X11_placeOfMoon_0 (by decide) (t_X7_placeOf R I (fun r hr => ?_)))
    have er := sp_plcF_eq hr
    refine b_X11_placeOfMoon_11 (by decide) (by decide) (by decide) ?_
    (repeat' (first | refine And.intro ?_ ?_ | refine fun _ => ?_))
    all_goals first | omega | (exfalso; omega) | exact kE 5 J _ (by assumption) sp_wrk.refl ⟨0, by omega⟩ | (refine b_X11_fareOf_13 (by decide) ?_; refine t_X3_fareAt R I (by omega) (by decide) (fun J1 x1 => ?_); refine b_X11_fareOf_16 ?_; rw [er]; exact kV _ J1 (fun z a => x1 z (by omega)) ⟨0, by omega⟩)
theorem q_fareOf_u {w : of_S} {x : Int} {k v k' v' : Int} (h : q_fareOf_s w x k v) (h' : q_fareOf_s w x k' v') : k = k' ∧ (k = 0 → v = v') := by
  unfold q_fareOf_s at h h'
  omega
def q_passageFerry_s (w : of_S) (x : Int) (k v : Int) : Prop := ((k = 5 ∧ ¬ (0 ≤ x ∧ x < 10 ∧ x < w.1.1 8)) ∨ (k = 0 ∧ (0 ≤ x ∧ x < 10 ∧ x < w.1.1 8) ∧ v = w.1.1 (131 + x)))
theorem q_passageFerry {w : of_S} {x : Int} {o : Nat ⊕ Option nw_V} (ho : ∀ k v, q_passageFerry_s w x k v → o = of_o k v) : of_call d_X11_passageFerry [.inl x] w o w 0 := by
    unfold q_passageFerry_s at ho
    intro sc J L W B Qr Qx h hB hQ
    show NW sc d_X11_passageFerry 20 (0, [some (.inr (.inl (some 0))), some (.inl x)], [], (J, L, W), 4, 24) Qr Qx
    have hA := h.1
    have R := sp_sh2.mp hA.1.1
    have I := hA.1.2.1
    obtain ⟨g, hg⟩ : ∃ g, g = w.1.1 := ⟨_, rfl⟩
    rw [← hg] at R I
    try rw [← hg] at ho
    have hbd := I.bd
    have hho := I.ho
    have hcr := I.cr
    have hch := I.ch
    have hfe := I.fe
    have hmo := I.mo
    have hnx := I.nx
    have c1 := R.cr
    have c2 := R.ch
    have c3 := R.fe
    have c4 := R.mo
    have c5 := R.ho
    have c6 := R.pa
    have hpa := I.pa
    have f1 := R.kep x
    have kE : ∀ (k : Int) (J1 : Nat → Int → Int) n2, W.2.2.2.2 ≤ n2 → sp_wrk J J1 → (∃ v : Int, 1 ≤ k ∧ ((k = 5 ∧ ¬ (0 ≤ x ∧ x < 10 ∧ x < g 8)) ∨ (k = 0 ∧ (0 ≤ x ∧ x < 10 ∧ x < g 8) ∧ v = g (131 + x)))) → Qx (k - 1).toNat (J1, L, nw_top W n2) := fun k J1 n2 h2 f1 hk => by
      obtain ⟨v, k1, hk⟩ := hk
      have e := ho k v hk
      rw [of_o, if_neg (by omega)] at e
      subst e
      exact hQ J1 L (nw_top W n2) (h.q f1 h2) rfl h2
    have kV : ∀ (v : Int) (J1 : Nat → Int → Int), sp_wrk J J1 → (∃ k : Int, k = 0 ∧ ((k = 5 ∧ ¬ (0 ≤ x ∧ x < 10 ∧ x < g 8)) ∨ (k = 0 ∧ (0 ≤ x ∧ x < 10 ∧ x < g 8) ∧ v = g (131 + x)))) → Qr (some (.inl v)) (J1, L, W) := fun v J1 f1 hk => by
      obtain ⟨k, k0, hk⟩ := hk
      have e := ho k v hk
      rw [of_o, if_pos k0] at e
      subst e
      exact hQ J1 L W (h.q (n := W.2.2.2.2) f1 (Nat.le_refl _)) rfl (Nat.le_refl _)
    refine b_X11_passageFerry_0 (by decide) (by decide) (by decide) ?_
    (repeat' (first | refine And.intro ?_ ?_ | refine fun _ => ?_))
    all_goals first | omega | (exfalso; omega) | exact kE 5 J _ (by assumption) sp_wrk.refl ⟨0, by omega⟩ | (refine t_X4_slotOf c6 ⟨by omega, by omega, by omega⟩ (by decide) ?_; refine b_X11_passageFerry_26 ?_; ((repeat' (first | refine And.intro ?_ ?_ | refine fun _ => ?_)); all_goals first | omega | (exfalso; omega) | exact kV _ J sp_wrk.refl ⟨0, by omega⟩))
theorem q_passageFerry_u {w : of_S} {x : Int} {k v k' v' : Int} (h : q_passageFerry_s w x k v) (h' : q_passageFerry_s w x k' v') : k = k' ∧ (k = 0 → v = v') := by
  unfold q_passageFerry_s at h h'
  omega
def q_passageCrater_s (w : of_S) (x : Int) (k v : Int) : Prop := ((k = 5 ∧ ¬ (0 ≤ x ∧ x < 10 ∧ x < w.1.1 8)) ∨ (k = 0 ∧ (0 ≤ x ∧ x < 10 ∧ x < w.1.1 8) ∧ v = w.1.1 (141 + x)))
theorem q_passageCrater {w : of_S} {x : Int} {o : Nat ⊕ Option nw_V} (ho : ∀ k v, q_passageCrater_s w x k v → o = of_o k v) : of_call d_X11_passageCrater [.inl x] w o w 0 := by
    unfold q_passageCrater_s at ho
    intro sc J L W B Qr Qx h hB hQ
    show NW sc d_X11_passageCrater 20 (0, [some (.inr (.inl (some 0))), some (.inl x)], [], (J, L, W), 4, 24) Qr Qx
    have hA := h.1
    have R := sp_sh2.mp hA.1.1
    have I := hA.1.2.1
    obtain ⟨g, hg⟩ : ∃ g, g = w.1.1 := ⟨_, rfl⟩
    rw [← hg] at R I
    try rw [← hg] at ho
    have hbd := I.bd
    have hho := I.ho
    have hcr := I.cr
    have hch := I.ch
    have hfe := I.fe
    have hmo := I.mo
    have hnx := I.nx
    have c1 := R.cr
    have c2 := R.ch
    have c3 := R.fe
    have c4 := R.mo
    have c5 := R.ho
    have c6 := R.pa
    have hpa := I.pa
    have f1 := R.kep x
    have kE : ∀ (k : Int) (J1 : Nat → Int → Int) n2, W.2.2.2.2 ≤ n2 → sp_wrk J J1 → (∃ v : Int, 1 ≤ k ∧ ((k = 5 ∧ ¬ (0 ≤ x ∧ x < 10 ∧ x < g 8)) ∨ (k = 0 ∧ (0 ≤ x ∧ x < 10 ∧ x < g 8) ∧ v = g (141 + x)))) → Qx (k - 1).toNat (J1, L, nw_top W n2) := fun k J1 n2 h2 f1 hk => by
      obtain ⟨v, k1, hk⟩ := hk
      have e := ho k v hk
      rw [of_o, if_neg (by omega)] at e
      subst e
      exact hQ J1 L (nw_top W n2) (h.q f1 h2) rfl h2
    have kV : ∀ (v : Int) (J1 : Nat → Int → Int), sp_wrk J J1 → (∃ k : Int, k = 0 ∧ ((k = 5 ∧ ¬ (0 ≤ x ∧ x < 10 ∧ x < g 8)) ∨ (k = 0 ∧ (0 ≤ x ∧ x < 10 ∧ x < g 8) ∧ v = g (141 + x)))) → Qr (some (.inl v)) (J1, L, W) := fun v J1 f1 hk => by
      obtain ⟨k, k0, hk⟩ := hk
      have e := ho k v hk
      rw [of_o, if_pos k0] at e
      subst e
      exact hQ J1 L W (h.q (n := W.2.2.2.2) f1 (Nat.le_refl _)) rfl (Nat.le_refl _)
    refine b_X11_passageCrater_0 (by decide) (by decide) (by decide) ?_
    (repeat' (first | refine And.intro ?_ ?_ | refine fun _ => ?_))
    all_goals first | omega | (exfalso; omega) | exact kE 5 J _ (by assumption) sp_wrk.refl ⟨0, by omega⟩ | (refine t_X4_slotOf c6 ⟨by omega, by omega, by omega⟩ (by decide) ?_; refine b_X11_passageCrater_26 ?_; ((repeat' (first | refine And.intro ?_ ?_ | refine fun _ => ?_)); all_goals first | omega | (exfalso; omega) | exact kV _ J sp_wrk.refl ⟨0, by omega⟩))
theorem q_passageCrater_u {w : of_S} {x : Int} {k v k' v' : Int} (h : q_passageCrater_s w x k v) (h' : q_passageCrater_s w x k' v') : k = k' ∧ (k = 0 → v = v') := by
  unfold q_passageCrater_s at h h'
  omega
def q_passageHour_s (w : of_S) (x : Int) (k v : Int) : Prop := ((k = 5 ∧ ¬ (0 ≤ x ∧ x < 10 ∧ x < w.1.1 8)) ∨ (k = 0 ∧ (0 ≤ x ∧ x < 10 ∧ x < w.1.1 8) ∧ v = w.1.1 (151 + x)))
theorem q_passageHour {w : of_S} {x : Int} {o : Nat ⊕ Option nw_V} (ho : ∀ k v, q_passageHour_s w x k v → o = of_o k v) : of_call d_X11_passageHour [.inl x] w o w 0 := by
    unfold q_passageHour_s at ho
    intro sc J L W B Qr Qx h hB hQ
    show NW sc d_X11_passageHour 20 (0, [some (.inr (.inl (some 0))), some (.inl x)], [], (J, L, W), 4, 24) Qr Qx
    have hA := h.1
    have R := sp_sh2.mp hA.1.1
    have I := hA.1.2.1
    obtain ⟨g, hg⟩ : ∃ g, g = w.1.1 := ⟨_, rfl⟩
    rw [← hg] at R I
    try rw [← hg] at ho
    have hbd := I.bd
    have hho := I.ho
    have hcr := I.cr
    have hch := I.ch
    have hfe := I.fe
    have hmo := I.mo
    have hnx := I.nx
    have c1 := R.cr
    have c2 := R.ch
    have c3 := R.fe
    have c4 := R.mo
    have c5 := R.ho
    have c6 := R.pa
    have hpa := I.pa
    have f1 := R.kep x
    have kE : ∀ (k : Int) (J1 : Nat → Int → Int) n2, W.2.2.2.2 ≤ n2 → sp_wrk J J1 → (∃ v : Int, 1 ≤ k ∧ ((k = 5 ∧ ¬ (0 ≤ x ∧ x < 10 ∧ x < g 8)) ∨ (k = 0 ∧ (0 ≤ x ∧ x < 10 ∧ x < g 8) ∧ v = g (151 + x)))) → Qx (k - 1).toNat (J1, L, nw_top W n2) := fun k J1 n2 h2 f1 hk => by
      obtain ⟨v, k1, hk⟩ := hk
      have e := ho k v hk
      rw [of_o, if_neg (by omega)] at e
      subst e
      exact hQ J1 L (nw_top W n2) (h.q f1 h2) rfl h2
    have kV : ∀ (v : Int) (J1 : Nat → Int → Int), sp_wrk J J1 → (∃ k : Int, k = 0 ∧ ((k = 5 ∧ ¬ (0 ≤ x ∧ x < 10 ∧ x < g 8)) ∨ (k = 0 ∧ (0 ≤ x ∧ x < 10 ∧ x < g 8) ∧ v = g (151 + x)))) → Qr (some (.inl v)) (J1, L, W) := fun v J1 f1 hk => by
      obtain ⟨k, k0, hk⟩ := hk
      have e := ho k v hk
      rw [of_o, if_pos k0] at e
      subst e
      exact hQ J1 L W (h.q (n := W.2.2.2.2) f1 (Nat.le_refl _)) rfl (Nat.le_refl _)
    refine b_X11_passageHour_0 (by decide) (by decide) (by decide) ?_
    (repeat' (first | refine And.intro ?_ ?_ | refine fun _ => ?_))
    all_goals first | omega | (exfalso; omega) | exact kE 5 J _ (by assumption) sp_wrk.refl ⟨0, by omega⟩ | (refine t_X4_slotOf c6 ⟨by omega, by omega, by omega⟩ (by decide) ?_; refine b_X11_passageHour_26 ?_; ((repeat' (first | refine And.intro ?_ ?_ | refine fun _ => ?_)); all_goals first | omega | (exfalso; omega) | exact kV _ J sp_wrk.refl ⟨0, by omega⟩))
theorem q_passageHour_u {w : of_S} {x : Int} {k v k' v' : Int} (h : q_passageHour_s w x k v) (h' : q_passageHour_s w x k' v') : k = k' ∧ (k = 0 → v = v') := by
  unfold q_passageHour_s at h h'
  omega
def q_cheapestNet_s (w : of_S) (k v : Int) : Prop := ((k = 5 ∧ 1 < sp_nt w.1.1 9) ∨ (k = 0 ∧ sp_nt w.1.1 9 ≤ 1 ∧ v = sp_nsum w.1.1))
theorem q_cheapestNet {w : of_S} {o : Nat ⊕ Option nw_V} (ho : ∀ k v, q_cheapestNet_s w k v → o = of_o k v) : of_call d_X11_cheapestNet [] w o w 0 := by
    unfold q_cheapestNet_s at ho
    intro sc J L W B Qr Qx h hB hQ
    show NW sc d_X11_cheapestNet 20 (0, [some (.inr (.inl (some 0)))], [], (J, L, W), 4, 24) Qr Qx
    have hA := h.1
    have R := sp_sh2.mp hA.1.1
    have I := hA.1.2.1
    obtain ⟨g, hg⟩ : ∃ g, g = w.1.1 := ⟨_, rfl⟩
    rw [← hg] at R I
    try rw [← hg] at ho
    have hbd := I.bd
    have hho := I.ho
    have hcr := I.cr
    have hch := I.ch
    have hfe := I.fe
    have hmo := I.mo
    have hnx := I.nx
    have c1 := R.cr
    have c2 := R.ch
    have c3 := R.fe
    have c4 := R.mo
    have c5 := R.ho
    have nn := sp_nsum_nn (g := g)
    have kE : ∀ (k : Int) (J1 : Nat → Int → Int) n2, W.2.2.2.2 ≤ n2 → sp_wrk J J1 → (∃ v : Int, 1 ≤ k ∧ ((k = 5 ∧ 1 < sp_nt g 9) ∨ (k = 0 ∧ sp_nt g 9 ≤ 1 ∧ v = sp_nsum g))) → Qx (k - 1).toNat (J1, L, nw_top W n2) := fun k J1 n2 h2 f1 hk => by
      obtain ⟨v, k1, hk⟩ := hk
      have e := ho k v hk
      rw [of_o, if_neg (by omega)] at e
      subst e
      exact hQ J1 L (nw_top W n2) (h.q f1 h2) rfl h2
    have kV : ∀ (v : Int) (J1 : Nat → Int → Int), sp_wrk J J1 → (∃ k : Int, k = 0 ∧ ((k = 5 ∧ 1 < sp_nt g 9) ∨ (k = 0 ∧ sp_nt g 9 ≤ 1 ∧ v = sp_nsum g))) → Qr (some (.inl v)) (J1, L, W) := fun v J1 f1 hk => by
      obtain ⟨k, k0, hk⟩ := hk
      have e := ho k v hk
      rw [of_o, if_pos k0] at e
      subst e
      exact hQ J1 L W (h.q (n := W.2.2.2.2) f1 (Nat.le_refl _)) rfl (Nat.le_refl _)
    refine b_X11_cheapestNet_0 (by decide) (t_X10_netByOrder R I (by decide) (fun J1 x1 z => ?_) (fun J1 x1 z => ?_))
    · refine b_X11_cheapestNet_14 (by decide) (by decide) (by decide) ?_
      ((repeat' (first | refine And.intro ?_ ?_ | refine fun _ => ?_)); all_goals first | omega | (exfalso; omega) | exact kE 5 J1 _ (by assumption) (fun z a => x1 z (by omega)) ⟨0, by omega⟩ | exact kV _ J1 (fun z a => x1 z (by omega)) ⟨0, by omega⟩)
    · refine b_X11_cheapestNet_14 (by decide) (by decide) (by decide) ?_
      ((repeat' (first | refine And.intro ?_ ?_ | refine fun _ => ?_)); all_goals first | omega | (exfalso; omega) | exact kE 5 J1 _ (by assumption) (fun z a => x1 z (by omega)) ⟨0, by omega⟩ | exact kV _ J1 (fun z a => x1 z (by omega)) ⟨0, by omega⟩)
theorem q_cheapestNet_u {w : of_S} {k v k' v' : Int} (h : q_cheapestNet_s w k v) (h' : q_cheapestNet_s w k' v') : k = k' ∧ (k = 0 → v = v') := by
  unfold q_cheapestNet_s at h h'
  omega
def q_cheapestNetByGrowing_s (w : of_S) (k v : Int) : Prop := ((k = 5 ∧ 1 < sp_nt w.1.1 9) ∨ (k = 0 ∧ sp_nt w.1.1 9 ≤ 1 ∧ v = sp_nsum w.1.1))
theorem q_cheapestNetByGrowing {w : of_S} {o : Nat ⊕ Option nw_V} (ho : ∀ k v, q_cheapestNetByGrowing_s w k v → o = of_o k v) : of_call d_X11_cheapestNetByGrowing [] w o w 0 := by
    unfold q_cheapestNetByGrowing_s at ho
    intro sc J L W B Qr Qx h hB hQ
    show NW sc d_X11_cheapestNetByGrowing 20 (0, [some (.inr (.inl (some 0)))], [], (J, L, W), 4, 24) Qr Qx
    have hA := h.1
    have R := sp_sh2.mp hA.1.1
    have I := hA.1.2.1
    obtain ⟨g, hg⟩ : ∃ g, g = w.1.1 := ⟨_, rfl⟩
    rw [← hg] at R I
    try rw [← hg] at ho
    have hbd := I.bd
    have hho := I.ho
    have hcr := I.cr
    have hch := I.ch
    have hfe := I.fe
    have hmo := I.mo
    have hnx := I.nx
    have c1 := R.cr
    have c2 := R.ch
    have c3 := R.fe
    have c4 := R.mo
    have c5 := R.ho
    have nn := sp_nsum_nn (g := g)
    have kE : ∀ (k : Int) (J1 : Nat → Int → Int) n2, W.2.2.2.2 ≤ n2 → sp_wrk J J1 → (∃ v : Int, 1 ≤ k ∧ ((k = 5 ∧ 1 < sp_nt g 9) ∨ (k = 0 ∧ sp_nt g 9 ≤ 1 ∧ v = sp_nsum g))) → Qx (k - 1).toNat (J1, L, nw_top W n2) := fun k J1 n2 h2 f1 hk => by
      obtain ⟨v, k1, hk⟩ := hk
      have e := ho k v hk
      rw [of_o, if_neg (by omega)] at e
      subst e
      exact hQ J1 L (nw_top W n2) (h.q f1 h2) rfl h2
    have kV : ∀ (v : Int) (J1 : Nat → Int → Int), sp_wrk J J1 → (∃ k : Int, k = 0 ∧ ((k = 5 ∧ 1 < sp_nt g 9) ∨ (k = 0 ∧ sp_nt g 9 ≤ 1 ∧ v = sp_nsum g))) → Qr (some (.inl v)) (J1, L, W) := fun v J1 f1 hk => by
      obtain ⟨k, k0, hk⟩ := hk
      have e := ho k v hk
      rw [of_o, if_pos k0] at e
      subst e
      exact hQ J1 L W (h.q (n := W.2.2.2.2) f1 (Nat.le_refl _)) rfl (Nat.le_refl _)
    refine b_X11_cheapestNetByGrowing_0 (by decide) (t_X10_netByGrowing R I (by decide) (fun z => ?_) (fun z => ?_))
    · refine b_X11_cheapestNetByGrowing_14 (by decide) (by decide) (by decide) ?_
      ((repeat' (first | refine And.intro ?_ ?_ | refine fun _ => ?_)); all_goals first | omega | (exfalso; omega) | exact kE 5 J _ (by assumption) sp_wrk.refl ⟨0, by omega⟩ | exact kV _ J sp_wrk.refl ⟨0, by omega⟩)
    · refine b_X11_cheapestNetByGrowing_14 (by decide) (by decide) (by decide) ?_
      ((repeat' (first | refine And.intro ?_ ?_ | refine fun _ => ?_)); all_goals first | omega | (exfalso; omega) | exact kE 5 J _ (by assumption) sp_wrk.refl ⟨0, by omega⟩ | exact kV _ J sp_wrk.refl ⟨0, by omega⟩)
theorem q_cheapestNetByGrowing_u {w : of_S} {k v k' v' : Int} (h : q_cheapestNetByGrowing_s w k v) (h' : q_cheapestNetByGrowing_s w k' v') : k = k' ∧ (k = 0 → v = v') := by
  unfold q_cheapestNetByGrowing_s at h h'
  omega
def q_isStranded_s (w : of_S) (x : Int) (k v : Int) : Prop := ((k = 1 ∧ ¬ (0 ≤ x ∧ x < w.1.1 3)) ∨ (k = 0 ∧ (0 ≤ x ∧ x < w.1.1 3) ∧ v = sp_sS w.1.1 x))
theorem q_isStranded {w : of_S} {x : Int} {o : Nat ⊕ Option nw_V} (ho : ∀ k v, q_isStranded_s w x k v → o = of_o k v) : of_call d_X11_isStranded [.inl x] w o w 0 := by
    unfold q_isStranded_s at ho
    intro sc J L W B Qr Qx h hB hQ
    show NW sc d_X11_isStranded 20 (0, [some (.inr (.inl (some 0))), some (.inl x)], [], (J, L, W), 4, 24) Qr Qx
    have hA := h.1
    have R := sp_sh2.mp hA.1.1
    have I := hA.1.2.1
    obtain ⟨g, hg⟩ : ∃ g, g = w.1.1 := ⟨_, rfl⟩
    rw [← hg] at R I
    try rw [← hg] at ho
    have hbd := I.bd
    have hho := I.ho
    have hcr := I.cr
    have hch := I.ch
    have hfe := I.fe
    have hmo := I.mo
    have hnx := I.nx
    have c1 := R.cr
    have c2 := R.ch
    have c3 := R.fe
    have c4 := R.mo
    have c5 := R.ho
    have kE : ∀ (k : Int) (J1 : Nat → Int → Int) n2, W.2.2.2.2 ≤ n2 → sp_wrk J J1 → (∃ v : Int, 1 ≤ k ∧ ((k = 1 ∧ ¬ (0 ≤ x ∧ x < g 3)) ∨ (k = 0 ∧ (0 ≤ x ∧ x < g 3) ∧ v = sp_sS g x))) → Qx (k - 1).toNat (J1, L, nw_top W n2) := fun k J1 n2 h2 f1 hk => by
      obtain ⟨v, k1, hk⟩ := hk
      have e := ho k v hk
      rw [of_o, if_neg (by omega)] at e
      subst e
      exact hQ J1 L (nw_top W n2) (h.q f1 h2) rfl h2
    have kV : ∀ (v : Int) (J1 : Nat → Int → Int), sp_wrk J J1 → (∃ k : Int, k = 0 ∧ ((k = 1 ∧ ¬ (0 ≤ x ∧ x < g 3)) ∨ (k = 0 ∧ (0 ≤ x ∧ x < g 3) ∧ v = sp_sS g x))) → Qr (some (.inl v)) (J1, L, W) := fun v J1 f1 hk => by
      obtain ⟨k, k0, hk⟩ := hk
      have e := ho k v hk
      rw [of_o, if_pos k0] at e
      subst e
      exact hQ J1 L W (h.q (n := W.2.2.2.2) f1 (Nat.le_refl _)) rfl (Nat.le_refl _)
    refine b_X11_isStranded_0 (by decide) (by decide) (by decide) ?_
    (repeat' (first | refine And.intro ?_ ?_ | refine fun _ => ?_))
    all_goals first | omega | (exfalso; omega) | exact kE 1 J _ (by assumption) sp_wrk.refl ⟨0, by omega⟩ | (refine t_X8_aground R I ⟨by omega, by omega⟩ (by decide) (fun y => ?_) (fun y => ?_))
    · have y1 : sp_sS g x = 1 := sp_bT y
      exact b_X11_isStranded_13 ⟨Or.inr rfl, kV _ J sp_wrk.refl ⟨0, by omega⟩⟩
    · have y0 : sp_sS g x = 0 := sp_bF y
      exact b_X11_isStranded_13 ⟨Or.inl rfl, kV _ J sp_wrk.refl ⟨0, by omega⟩⟩
theorem q_isStranded_u {w : of_S} {x : Int} {k v k' v' : Int} (h : q_isStranded_s w x k v) (h' : q_isStranded_s w x k' v') : k = k' ∧ (k = 0 → v = v') := by
  unfold q_isStranded_s at h h'
  omega
def q_earliestArrival_s (w : of_S) (x : Int) (y : Int) (k v : Int) : Prop := ((k = 1 ∧ ¬ ((0 ≤ x ∧ x < w.1.1 3) ∧ (0 ≤ y ∧ y < w.1.1 1))) ∨ (k = 5 ∧ ((0 ≤ x ∧ x < w.1.1 3) ∧ (0 ≤ y ∧ y < w.1.1 1)) ∧ ∀ t, sp_ra w.1.1 x y t → w.1.1 0 + 99 < t) ∨ (k = 0 ∧ ((0 ≤ x ∧ x < w.1.1 3) ∧ (0 ≤ y ∧ y < w.1.1 1)) ∧ sp_ea w.1.1 x y v ∧ v ≤ w.1.1 0 + 99))
theorem q_earliestArrival {w : of_S} {x y : Int} {o : Nat ⊕ Option nw_V} (ho : ∀ k v, q_earliestArrival_s w x y k v → o = of_o k v) : of_call d_X11_earliestArrival [.inl x, .inl y] w o w 0 := by
    unfold q_earliestArrival_s at ho
    intro sc J L W B Qr Qx h hB hQ
    show NW sc d_X11_earliestArrival 20 (0, [some (.inr (.inl (some 0))), some (.inl x), some (.inl y)], [], (J, L, W), 4, 24) Qr Qx
    have hA := h.1
    have R := sp_sh2.mp hA.1.1
    have I := hA.1.2.1
    obtain ⟨g, hg⟩ : ∃ g, g = w.1.1 := ⟨_, rfl⟩
    rw [← hg] at R I
    try rw [← hg] at ho
    have hbd := I.bd
    have hho := I.ho
    have hcr := I.cr
    have hch := I.ch
    have hfe := I.fe
    have hmo := I.mo
    have hnx := I.nx
    have c1 := R.cr
    have c2 := R.ch
    have c3 := R.fe
    have c4 := R.mo
    have c5 := R.ho
    have kE : ∀ (k : Int) (J1 : Nat → Int → Int) n2, W.2.2.2.2 ≤ n2 → sp_wrk J J1 → (∃ v : Int, 1 ≤ k ∧ ((k = 1 ∧ ¬ ((0 ≤ x ∧ x < g 3) ∧ (0 ≤ y ∧ y < g 1))) ∨ (k = 5 ∧ ((0 ≤ x ∧ x < g 3) ∧ (0 ≤ y ∧ y < g 1)) ∧ ∀ t, sp_ra g x y t → g 0 + 99 < t) ∨ (k = 0 ∧ ((0 ≤ x ∧ x < g 3) ∧ (0 ≤ y ∧ y < g 1)) ∧ sp_ea g x y v ∧ v ≤ g 0 + 99))) → Qx (k - 1).toNat (J1, L, nw_top W n2) := fun k J1 n2 h2 f1 hk => by
      obtain ⟨v, k1, hk⟩ := hk
      have e := ho k v hk
      rw [of_o, if_neg (by omega)] at e
      subst e
      exact hQ J1 L (nw_top W n2) (h.q f1 h2) rfl h2
    have kV : ∀ (v : Int) (J1 : Nat → Int → Int), sp_wrk J J1 → (∃ k : Int, k = 0 ∧ ((k = 1 ∧ ¬ ((0 ≤ x ∧ x < g 3) ∧ (0 ≤ y ∧ y < g 1))) ∨ (k = 5 ∧ ((0 ≤ x ∧ x < g 3) ∧ (0 ≤ y ∧ y < g 1)) ∧ ∀ t, sp_ra g x y t → g 0 + 99 < t) ∨ (k = 0 ∧ ((0 ≤ x ∧ x < g 3) ∧ (0 ≤ y ∧ y < g 1)) ∧ sp_ea g x y v ∧ v ≤ g 0 + 99))) → Qr (some (.inl v)) (J1, L, W) := fun v J1 f1 hk => by
      obtain ⟨k, k0, hk⟩ := hk
      have e := ho k v hk
      rw [of_o, if_pos k0] at e
      subst e
      exact hQ J1 L W (h.q (n := W.2.2.2.2) f1 (Nat.le_refl _)) rfl (Nat.le_refl _)
    refine b_X11_earliestArrival_0 (by decide) (by decide) (by decide) ?_
    (repeat' (first | refine And.intro ?_ ?_ | refine fun _ => ?_))
    all_goals first | omega | (exfalso; omega) | exact kE 1 J _ (by assumption) sp_wrk.refl ⟨0, by decide, Or.inl ⟨rfl, by omega⟩⟩ | (refine t_X10_arriveByQueue R I ⟨by omega, by omega⟩ (by decide) (fun J1 x1 ep => ?_))
    have e1 := ep y (by omega) (by omega)
    refine b_X11_earliestArrival_22 (by decide) (by decide) (by decide) ⟨by omega, fun z => ?_, fun z n2 h2 => ?_⟩
    · have e2 := e1.1 z
      exact kV _ J1 (fun z a => x1 z (by omega)) ⟨0, rfl, Or.inr (Or.inr ⟨rfl, by omega, e2.1, e2.2⟩)⟩
    · exact kE 5 J1 n2 h2 (fun z a => x1 z (by omega)) ⟨0, by decide, Or.inr (Or.inl ⟨rfl, by omega, e1.2 z⟩)⟩
theorem q_earliestArrival_u {w : of_S} {x y : Int} {k v k' v' : Int} (h : q_earliestArrival_s w x y k v) (h' : q_earliestArrival_s w x y k' v') : k = k' ∧ (k = 0 → v = v') := by
  rcases h with ⟨k1, nv⟩ | ⟨k5, vv, no⟩ | ⟨k0, vv, ea, le⟩
  · rcases h' with ⟨k1', nv'⟩ | ⟨k5', vv', no'⟩ | ⟨k0', vv', ea', le'⟩
    · omega
    · exact absurd vv' nv
    · exact absurd vv' nv
  · rcases h' with ⟨k1', nv'⟩ | ⟨k5', vv', no'⟩ | ⟨k0', vv', ea', le'⟩
    · exact absurd vv nv'
    · omega
    · have := no _ ea'.1
      omega
  · rcases h' with ⟨k1', nv'⟩ | ⟨k5', vv', no'⟩ | ⟨k0', vv', ea', le'⟩
    · exact absurd vv nv'
    · have := no' _ ea.1
      omega
    · have := ea.2 _ ea'.1
      have := ea'.2 _ ea.1
      omega
def q_earliestArrivalByHours_s (w : of_S) (x : Int) (y : Int) (k v : Int) : Prop := ((k = 1 ∧ ¬ ((0 ≤ x ∧ x < w.1.1 3) ∧ (0 ≤ y ∧ y < w.1.1 1))) ∨ (k = 5 ∧ ((0 ≤ x ∧ x < w.1.1 3) ∧ (0 ≤ y ∧ y < w.1.1 1)) ∧ ∀ t, sp_ra w.1.1 x y t → w.1.1 0 + 99 < t) ∨ (k = 0 ∧ ((0 ≤ x ∧ x < w.1.1 3) ∧ (0 ≤ y ∧ y < w.1.1 1)) ∧ sp_ea w.1.1 x y v ∧ v ≤ w.1.1 0 + 99))
theorem q_earliestArrivalByHours {w : of_S} {x y : Int} {o : Nat ⊕ Option nw_V} (ho : ∀ k v, q_earliestArrivalByHours_s w x y k v → o = of_o k v) : of_call d_X11_earliestArrivalByHours [.inl x, .inl y] w o w 0 := by
    unfold q_earliestArrivalByHours_s at ho
    intro sc J L W B Qr Qx h hB hQ
    show NW sc d_X11_earliestArrivalByHours 20 (0, [some (.inr (.inl (some 0))), some (.inl x), some (.inl y)], [], (J, L, W), 4, 24) Qr Qx
    have hA := h.1
    have R := sp_sh2.mp hA.1.1
    have I := hA.1.2.1
    obtain ⟨g, hg⟩ : ∃ g, g = w.1.1 := ⟨_, rfl⟩
    rw [← hg] at R I
    try rw [← hg] at ho
    have hbd := I.bd
    have hho := I.ho
    have hcr := I.cr
    have hch := I.ch
    have hfe := I.fe
    have hmo := I.mo
    have hnx := I.nx
    have c1 := R.cr
    have c2 := R.ch
    have c3 := R.fe
    have c4 := R.mo
    have c5 := R.ho
    have kE : ∀ (k : Int) (J1 : Nat → Int → Int) n2, W.2.2.2.2 ≤ n2 → sp_wrk J J1 → (∃ v : Int, 1 ≤ k ∧ ((k = 1 ∧ ¬ ((0 ≤ x ∧ x < g 3) ∧ (0 ≤ y ∧ y < g 1))) ∨ (k = 5 ∧ ((0 ≤ x ∧ x < g 3) ∧ (0 ≤ y ∧ y < g 1)) ∧ ∀ t, sp_ra g x y t → g 0 + 99 < t) ∨ (k = 0 ∧ ((0 ≤ x ∧ x < g 3) ∧ (0 ≤ y ∧ y < g 1)) ∧ sp_ea g x y v ∧ v ≤ g 0 + 99))) → Qx (k - 1).toNat (J1, L, nw_top W n2) := fun k J1 n2 h2 f1 hk => by
      obtain ⟨v, k1, hk⟩ := hk
      have e := ho k v hk
      rw [of_o, if_neg (by omega)] at e
      subst e
      exact hQ J1 L (nw_top W n2) (h.q f1 h2) rfl h2
    have kV : ∀ (v : Int) (J1 : Nat → Int → Int), sp_wrk J J1 → (∃ k : Int, k = 0 ∧ ((k = 1 ∧ ¬ ((0 ≤ x ∧ x < g 3) ∧ (0 ≤ y ∧ y < g 1))) ∨ (k = 5 ∧ ((0 ≤ x ∧ x < g 3) ∧ (0 ≤ y ∧ y < g 1)) ∧ ∀ t, sp_ra g x y t → g 0 + 99 < t) ∨ (k = 0 ∧ ((0 ≤ x ∧ x < g 3) ∧ (0 ≤ y ∧ y < g 1)) ∧ sp_ea g x y v ∧ v ≤ g 0 + 99))) → Qr (some (.inl v)) (J1, L, W) := fun v J1 f1 hk => by
      obtain ⟨k, k0, hk⟩ := hk
      have e := ho k v hk
      rw [of_o, if_pos k0] at e
      subst e
      exact hQ J1 L W (h.q (n := W.2.2.2.2) f1 (Nat.le_refl _)) rfl (Nat.le_refl _)
    refine b_X11_earliestArrivalByHours_0 (by decide) (by decide) (by decide) ?_
    (repeat' (first | refine And.intro ?_ ?_ | refine fun _ => ?_))
    all_goals first | omega | (exfalso; omega) | exact kE 1 J _ (by assumption) sp_wrk.refl ⟨0, by decide, Or.inl ⟨rfl, by omega⟩⟩ | (refine t_X10_arriveByHours R I ⟨by omega, by omega⟩ (by decide) (fun J1 x1 ep => ?_))
    have e1 := ep y (by omega) (by omega)
    refine b_X11_earliestArrivalByHours_22 (by decide) (by decide) (by decide) ⟨by omega, fun z => ?_, fun z n2 h2 => ?_⟩
    · have e2 := e1.1 z
      exact kV _ J1 (fun z a => x1 z (by omega)) ⟨0, rfl, Or.inr (Or.inr ⟨rfl, by omega, e2.1, e2.2⟩)⟩
    · exact kE 5 J1 n2 h2 (fun z a => x1 z (by omega)) ⟨0, by decide, Or.inr (Or.inl ⟨rfl, by omega, e1.2 z⟩)⟩
theorem q_earliestArrivalByHours_u {w : of_S} {x y : Int} {k v k' v' : Int} (h : q_earliestArrivalByHours_s w x y k v) (h' : q_earliestArrivalByHours_s w x y k' v') : k = k' ∧ (k = 0 → v = v') := by
  rcases h with ⟨k1, nv⟩ | ⟨k5, vv, no⟩ | ⟨k0, vv, ea, le⟩
  · rcases h' with ⟨k1', nv'⟩ | ⟨k5', vv', no'⟩ | ⟨k0', vv', ea', le'⟩
    · omega
    · exact absurd vv' nv
    · exact absurd vv' nv
  · rcases h' with ⟨k1', nv'⟩ | ⟨k5', vv', no'⟩ | ⟨k0', vv', ea', le'⟩
    · exact absurd vv nv'
    · omega
    · have := no _ ea'.1
      omega
  · rcases h' with ⟨k1', nv'⟩ | ⟨k5', vv', no'⟩ | ⟨k0', vv', ea', le'⟩
    · exact absurd vv nv'
    · have := no' _ ea.1
      omega
    · have := ea.2 _ ea'.1
      have := ea'.2 _ ea.1
      omega
def q_moonAtRank_s (w : of_S) (x : Int) (k v : Int) : Prop := ((k = 5 ∧ ¬ (0 ≤ x ∧ x < w.1.1 4)) ∨ (k = 0 ∧ (0 ≤ x ∧ x < w.1.1 4) ∧ ∃ p, 0 ≤ p ∧ p < w.1.1 4 ∧ sp_first (fun p => sp_rank w.1.1 p = x) (w.1.1 4) p ∧ v = w.1.1 (71 + p)))
theorem q_moonAtRank {w : of_S} {x : Int} {o : Nat ⊕ Option nw_V} (ho : ∀ k v, q_moonAtRank_s w x k v → o = of_o k v) : of_call d_X11_moonAtRank [.inl x] w o w 0 := by
    unfold q_moonAtRank_s at ho
    intro sc J L W B Qr Qx h hB hQ
    show NW sc d_X11_moonAtRank 20 (0, [some (.inr (.inl (some 0))), some (.inl x)], [], (J, L, W), 4, 24) Qr Qx
    have hA := h.1
    have R := sp_sh2.mp hA.1.1
    have I := hA.1.2.1
    obtain ⟨g, hg⟩ : ∃ g, g = w.1.1 := ⟨_, rfl⟩
    rw [← hg] at R I
    try rw [← hg] at ho
    have hbd := I.bd
    have hho := I.ho
    have hcr := I.cr
    have hch := I.ch
    have hfe := I.fe
    have hmo := I.mo
    have hnx := I.nx
    have c1 := R.cr
    have c2 := R.ch
    have c3 := R.fe
    have c4 := R.mo
    have c5 := R.ho
    have kE : ∀ (k : Int) (J1 : Nat → Int → Int) n2, W.2.2.2.2 ≤ n2 → sp_wrk J J1 → (∃ v : Int, 1 ≤ k ∧ ((k = 5 ∧ ¬ (0 ≤ x ∧ x < g 4)) ∨ (k = 0 ∧ (0 ≤ x ∧ x < g 4) ∧ ∃ p, 0 ≤ p ∧ p < g 4 ∧ sp_first (fun p => sp_rank g p = x) (g 4) p ∧ v = g (71 + p)))) → Qx (k - 1).toNat (J1, L, nw_top W n2) := fun k J1 n2 h2 f1 hk => by
      obtain ⟨v, k1, hk⟩ := hk
      have e := ho k v hk
      rw [of_o, if_neg (by omega)] at e
      subst e
      exact hQ J1 L (nw_top W n2) (h.q f1 h2) rfl h2
    have kV : ∀ (v : Int) (J1 : Nat → Int → Int), sp_wrk J J1 → (∃ k : Int, k = 0 ∧ ((k = 5 ∧ ¬ (0 ≤ x ∧ x < g 4)) ∨ (k = 0 ∧ (0 ≤ x ∧ x < g 4) ∧ ∃ p, 0 ≤ p ∧ p < g 4 ∧ sp_first (fun p => sp_rank g p = x) (g 4) p ∧ v = g (71 + p)))) → Qr (some (.inl v)) (J1, L, W) := fun v J1 f1 hk => by
      obtain ⟨k, k0, hk⟩ := hk
      have e := ho k v hk
      rw [of_o, if_pos k0] at e
      subst e
      exact hQ J1 L W (h.q (n := W.2.2.2.2) f1 (Nat.le_refl _)) rfl (Nat.le_refl _)
    refine b_X11_moonAtRank_0 (by decide) (by decide) (by decide) ?_
    (repeat' (first | refine And.intro ?_ ?_ | refine fun _ => ?_))
    all_goals first | omega | (exfalso; omega) | exact kE 5 J _ (by assumption) sp_wrk.refl ⟨0, by decide, Or.inl ⟨rfl, by omega⟩⟩ | (refine t_X3_askAll R I (by decide) (fun J1 x1 n1 y1 f1 => ?_))
    have R1 : RC J1 L g := R.keep I (fun z a b => x1 z (by unfold sp_scr; omega))
    refine b_X11_moonAtRank_37 (by decide) (t_X3_placeAtRank I n1 f1 (by decide) (fun q hq => ?_))
    obtain ⟨p, p0, p1, p2⟩ := sp_rank_ex I (r := x) ⟨by omega, by omega⟩
    have hr := sp_first_rng hq
    have hq0 : 0 ≤ q ∧ q < g 4 := by
      rcases hq with ⟨_, no⟩ | ⟨a, b, _, _⟩
      · exact absurd p2 (no p p0 p1)
      · exact ⟨a, b⟩
    rw [if_neg (show ¬ q = -1 by omega)]
    have mq := R1.moo q hq0.1 hq0.2
    refine b_X11_moonAtRank_55 ⟨by omega, ?_⟩
    rw [mq.1]
    exact kV _ J1 (fun z a => x1 z (by unfold sp_scr; omega)) ⟨0, rfl, Or.inr ⟨rfl, by omega, q, hq0.1, hq0.2, hq, rfl⟩⟩
theorem q_moonAtRank_u {w : of_S} {x : Int} {k v k' v' : Int} (h : q_moonAtRank_s w x k v) (h' : q_moonAtRank_s w x k' v') : k = k' ∧ (k = 0 → v = v') := by
  rcases h with ⟨k1, nv⟩ | ⟨k0, vv, p, _, _, hp, e⟩
  · rcases h' with ⟨k1', nv'⟩ | ⟨k0', vv', p', _, _, hp', e'⟩
    · omega
    · exact absurd vv' nv
  · rcases h' with ⟨k1', nv'⟩ | ⟨k0', vv', p', _, _, hp', e'⟩
    · exact absurd vv nv'
    · have := sp_first_uniq hp hp'
      subst this
      exact ⟨by omega, fun _ => e.trans e'.symm⟩
def q_countBelow_s (w : of_S) (x : Int) (k v : Int) : Prop := (k = 0 ∧ v = sp_cl (sp_fare w.1.1) x (w.1.1 4).toNat)
theorem q_countBelow {w : of_S} {x : Int} {o : Nat ⊕ Option nw_V} (ho : ∀ k v, q_countBelow_s w x k v → o = of_o k v) : of_call d_X11_countBelow [.inl x] w o w 0 := by
    unfold q_countBelow_s at ho
    intro sc J L W B Qr Qx h hB hQ
    show NW sc d_X11_countBelow 20 (0, [some (.inr (.inl (some 0))), some (.inl x)], [], (J, L, W), 4, 24) Qr Qx
    have hA := h.1
    have R := sp_sh2.mp hA.1.1
    have I := hA.1.2.1
    obtain ⟨g, hg⟩ : ∃ g, g = w.1.1 := ⟨_, rfl⟩
    rw [← hg] at R I
    try rw [← hg] at ho
    have hbd := I.bd
    have hho := I.ho
    have hcr := I.cr
    have hch := I.ch
    have hfe := I.fe
    have hmo := I.mo
    have hnx := I.nx
    have c1 := R.cr
    have c2 := R.ch
    have c3 := R.fe
    have c4 := R.mo
    have c5 := R.ho
    have kE : ∀ (k : Int) (J1 : Nat → Int → Int) n2, W.2.2.2.2 ≤ n2 → sp_wrk J J1 → (∃ v : Int, 1 ≤ k ∧ (k = 0 ∧ v = sp_cl (sp_fare g) x (g 4).toNat)) → Qx (k - 1).toNat (J1, L, nw_top W n2) := fun k J1 n2 h2 f1 hk => by
      obtain ⟨v, k1, hk⟩ := hk
      have e := ho k v hk
      rw [of_o, if_neg (by omega)] at e
      subst e
      exact hQ J1 L (nw_top W n2) (h.q f1 h2) rfl h2
    have kV : ∀ (v : Int) (J1 : Nat → Int → Int), sp_wrk J J1 → (∃ k : Int, k = 0 ∧ (k = 0 ∧ v = sp_cl (sp_fare g) x (g 4).toNat)) → Qr (some (.inl v)) (J1, L, W) := fun v J1 f1 hk => by
      obtain ⟨k, k0, hk⟩ := hk
      have e := ho k v hk
      rw [of_o, if_pos k0] at e
      subst e
      exact hQ J1 L W (h.q (n := W.2.2.2.2) f1 (Nat.le_refl _)) rfl (Nat.le_refl _)
    have eg : ((g 4).toNat : Int) = g 4 := by omega
    have fb : ∀ i : Int, 0 ≤ i → i < ((g 4).toNat : Nat) → -1000000 < sp_fare g i ∧ sp_fare g i < 1000000 := fun i a b => by
      have := sp_fare_bd I (p := i) ⟨a, by omega⟩
      omega
    refine b_X11_countBelow_0 (by decide) (t_X3_askAll R I (by decide) (fun J1 x1 n1 y1 f1 => ?_))
    refine b_X11_countBelow_11 (by decide) (t_X3_growTree (n := (g 4).toNat) (f := sp_fare g) (by rw [n1]; exact eg.symm) (by omega) (fun i a b => f1 i a (by omega)) fb (by decide) (fun J2 k lo hi x2 y2 T2 => ?_))
    refine b_X11_countBelow_18 (by decide) (t_X3_lessInTree T2 fb (b_X11_countBelow_26 ?_))
    exact kV _ J2 (fun x a => by rw [x2 x (by omega), x1 x (by unfold sp_scr; omega)]) ⟨0, rfl, rfl, rfl⟩
theorem q_countBelow_u {w : of_S} {x : Int} {k v k' v' : Int} (h : q_countBelow_s w x k v) (h' : q_countBelow_s w x k' v') : k = k' ∧ (k = 0 → v = v') := by
  unfold q_countBelow_s at h h'
  omega
def q_countBelowByAsking_s (w : of_S) (x : Int) (k v : Int) : Prop := (k = 0 ∧ v = sp_less w.1.1 x (w.1.1 4).toNat)
theorem q_countBelowByAsking {w : of_S} {x : Int} {o : Nat ⊕ Option nw_V} (ho : ∀ k v, q_countBelowByAsking_s w x k v → o = of_o k v) : of_call d_X11_countBelowByAsking [.inl x] w o w 0 := by
    unfold q_countBelowByAsking_s at ho
    intro sc J L W B Qr Qx h hB hQ
    show NW sc d_X11_countBelowByAsking 20 (0, [some (.inr (.inl (some 0))), some (.inl x)], [], (J, L, W), 4, 24) Qr Qx
    have hA := h.1
    have R := sp_sh2.mp hA.1.1
    have I := hA.1.2.1
    obtain ⟨g, hg⟩ : ∃ g, g = w.1.1 := ⟨_, rfl⟩
    rw [← hg] at R I
    try rw [← hg] at ho
    have hbd := I.bd
    have hho := I.ho
    have hcr := I.cr
    have hch := I.ch
    have hfe := I.fe
    have hmo := I.mo
    have hnx := I.nx
    have c1 := R.cr
    have c2 := R.ch
    have c3 := R.fe
    have c4 := R.mo
    have c5 := R.ho
    have kE : ∀ (k : Int) (J1 : Nat → Int → Int) n2, W.2.2.2.2 ≤ n2 → sp_wrk J J1 → (∃ v : Int, 1 ≤ k ∧ (k = 0 ∧ v = sp_less g x (g 4).toNat)) → Qx (k - 1).toNat (J1, L, nw_top W n2) := fun k J1 n2 h2 f1 hk => by
      obtain ⟨v, k1, hk⟩ := hk
      have e := ho k v hk
      rw [of_o, if_neg (by omega)] at e
      subst e
      exact hQ J1 L (nw_top W n2) (h.q f1 h2) rfl h2
    have kV : ∀ (v : Int) (J1 : Nat → Int → Int), sp_wrk J J1 → (∃ k : Int, k = 0 ∧ (k = 0 ∧ v = sp_less g x (g 4).toNat)) → Qr (some (.inl v)) (J1, L, W) := fun v J1 f1 hk => by
      obtain ⟨k, k0, hk⟩ := hk
      have e := ho k v hk
      rw [of_o, if_pos k0] at e
      subst e
      exact hQ J1 L W (h.q (n := W.2.2.2.2) f1 (Nat.le_refl _)) rfl (Nat.le_refl _)
    refine b_X11_countBelowByAsking_0 (by decide) (t_X3_askAll R I (by decide) (fun J1 x1 n1 y1 f1 => ?_))
    refine b_X11_countBelowByAsking_11 (by decide) (t_X3_lessByAsking I n1 f1 (b_X11_countBelowByAsking_19 ?_))
    exact kV _ J1 (fun x a => x1 x (by unfold sp_scr; omega)) ⟨0, rfl, rfl, rfl⟩
theorem q_countBelowByAsking_u {w : of_S} {x : Int} {k v k' v' : Int} (h : q_countBelowByAsking_s w x k v) (h' : q_countBelowByAsking_s w x k' v') : k = k' ∧ (k = 0 → v = v') := by
  unfold q_countBelowByAsking_s at h h'
  omega
def q_isConsistent_s (w : of_S) (k v : Int) : Prop := (k = 0 ∧ v = 1)
theorem q_isConsistent {w : of_S} {o : Nat ⊕ Option nw_V} (ho : ∀ k v, q_isConsistent_s w k v → o = of_o k v) : of_call d_X11_isConsistent [] w o w 0 := by
    unfold q_isConsistent_s at ho
    intro sc J L W B Qr Qx h hB hQ
    show NW sc d_X11_isConsistent 20 (0, [some (.inr (.inl (some 0)))], [], (J, L, W), 4, 24) Qr Qx
    have hA := h.1
    have R := sp_sh2.mp hA.1.1
    have I := hA.1.2.1
    obtain ⟨g, hg⟩ : ∃ g, g = w.1.1 := ⟨_, rfl⟩
    rw [← hg] at R I
    try rw [← hg] at ho
    have hbd := I.bd
    have hho := I.ho
    have hcr := I.cr
    have hch := I.ch
    have hfe := I.fe
    have hmo := I.mo
    have hnx := I.nx
    have c1 := R.cr
    have c2 := R.ch
    have c3 := R.fe
    have c4 := R.mo
    have c5 := R.ho
    have kE : ∀ (k : Int) (J1 : Nat → Int → Int) n2, W.2.2.2.2 ≤ n2 → sp_wrk J J1 → (∃ v : Int, 1 ≤ k ∧ (k = 0 ∧ v = 1)) → Qx (k - 1).toNat (J1, L, nw_top W n2) := fun k J1 n2 h2 f1 hk => by
      obtain ⟨v, k1, hk⟩ := hk
      have e := ho k v hk
      rw [of_o, if_neg (by omega)] at e
      subst e
      exact hQ J1 L (nw_top W n2) (h.q f1 h2) rfl h2
    have kV : ∀ (v : Int) (J1 : Nat → Int → Int), sp_wrk J J1 → (∃ k : Int, k = 0 ∧ (k = 0 ∧ v = 1)) → Qr (some (.inl v)) (J1, L, W) := fun v J1 f1 hk => by
      obtain ⟨k, k0, hk⟩ := hk
      have e := ho k v hk
      rw [of_o, if_pos k0] at e
      subst e
      exact hQ J1 L W (h.q (n := W.2.2.2.2) f1 (Nat.le_refl _)) rfl (Nat.le_refl _)
    exact t_X11_isConsistent R I (by decide) (fun J1 w1 => kV _ J1 w1 ⟨0, rfl, rfl, rfl⟩)
theorem q_isConsistent_u {w : of_S} {k v k' v' : Int} (h : q_isConsistent_s w k v) (h' : q_isConsistent_s w k' v') : k = k' ∧ (k = 0 → v = v') := by
  unfold q_isConsistent_s at h h'
  omega
def q_refusalReason_s (w : of_S) (k v : Int) : Prop := ((k = 5 ∧ w.2.1.1 = -1) ∨ (k = 0 ∧ ¬ w.2.1.1 = -1 ∧ v = w.2.1.1))
theorem q_refusalReason {w : of_S} {o : Nat ⊕ Option nw_V} (ho : ∀ k v, q_refusalReason_s w k v → o = of_o k v) : of_call d_X11_refusalReason [] w o w 0 := by
    unfold q_refusalReason_s at ho
    intro sc J L W B Qr Qx h hB hQ
    show NW sc d_X11_refusalReason 20 (0, [some (.inr (.inl (some 0)))], [], (J, L, W), 4, 24) Qr Qx
    have hA := h.1
    have R := sp_sh2.mp hA.1.1
    have I := hA.1.2.1
    obtain ⟨g, hg⟩ : ∃ g, g = w.1.1 := ⟨_, rfl⟩
    rw [← hg] at R I
    try rw [← hg] at ho
    have hbd := I.bd
    have hho := I.ho
    have hcr := I.cr
    have hch := I.ch
    have hfe := I.fe
    have hmo := I.mo
    have hnx := I.nx
    have c1 := R.cr
    have c2 := R.ch
    have c3 := R.fe
    have c4 := R.mo
    have c5 := R.ho
    have kE : ∀ (k : Int) (J1 : Nat → Int → Int) n2, W.2.2.2.2 ≤ n2 → sp_wrk J J1 → (∃ v : Int, 1 ≤ k ∧ ((k = 5 ∧ w.2.1.1 = -1) ∨ (k = 0 ∧ ¬ w.2.1.1 = -1 ∧ v = w.2.1.1))) → Qx (k - 1).toNat (J1, L, nw_top W n2) := fun k J1 n2 h2 f1 hk => by
      obtain ⟨v, k1, hk⟩ := hk
      have e := ho k v hk
      rw [of_o, if_neg (by omega)] at e
      subst e
      exact hQ J1 L (nw_top W n2) (h.q f1 h2) rfl h2
    have kV : ∀ (v : Int) (J1 : Nat → Int → Int), sp_wrk J J1 → (∃ k : Int, k = 0 ∧ ((k = 5 ∧ w.2.1.1 = -1) ∨ (k = 0 ∧ ¬ w.2.1.1 = -1 ∧ v = w.2.1.1))) → Qr (some (.inl v)) (J1, L, W) := fun v J1 f1 hk => by
      obtain ⟨k, k0, hk⟩ := hk
      have e := ho k v hk
      rw [of_o, if_pos k0] at e
      subst e
      exact hQ J1 L W (h.q (n := W.2.2.2.2) f1 (Nat.le_refl _)) rfl (Nat.le_refl _)
    have e9 : J 1 0 = w.2.1.1 := h.2.1.1
    refine b_X11_refusalReason_0 (by decide) (by decide) (by decide) ?_
    rw [e9]
    (repeat' (first | refine And.intro ?_ ?_ | refine fun _ => ?_))
    · exact kV _ J sp_wrk.refl ⟨0, by omega⟩
    · exact kE 5 J _ (by assumption) sp_wrk.refl ⟨0, by omega⟩
theorem q_refusalReason_u {w : of_S} {k v k' v' : Int} (h : q_refusalReason_s w k v) (h' : q_refusalReason_s w k' v') : k = k' ∧ (k = 0 → v = v') := by
  unfold q_refusalReason_s at h h'
  omega
def q_errorPosition_s (w : of_S) (k v : Int) : Prop := ((k = 5 ∧ w.2.1.2.1 = -1) ∨ (k = 0 ∧ ¬ w.2.1.2.1 = -1 ∧ v = w.2.1.2.1))
theorem q_errorPosition {w : of_S} {o : Nat ⊕ Option nw_V} (ho : ∀ k v, q_errorPosition_s w k v → o = of_o k v) : of_call d_X11_errorPosition [] w o w 0 := by
    unfold q_errorPosition_s at ho
    intro sc J L W B Qr Qx h hB hQ
    show NW sc d_X11_errorPosition 20 (0, [some (.inr (.inl (some 0)))], [], (J, L, W), 4, 24) Qr Qx
    have hA := h.1
    have R := sp_sh2.mp hA.1.1
    have I := hA.1.2.1
    obtain ⟨g, hg⟩ : ∃ g, g = w.1.1 := ⟨_, rfl⟩
    rw [← hg] at R I
    try rw [← hg] at ho
    have hbd := I.bd
    have hho := I.ho
    have hcr := I.cr
    have hch := I.ch
    have hfe := I.fe
    have hmo := I.mo
    have hnx := I.nx
    have c1 := R.cr
    have c2 := R.ch
    have c3 := R.fe
    have c4 := R.mo
    have c5 := R.ho
    have kE : ∀ (k : Int) (J1 : Nat → Int → Int) n2, W.2.2.2.2 ≤ n2 → sp_wrk J J1 → (∃ v : Int, 1 ≤ k ∧ ((k = 5 ∧ w.2.1.2.1 = -1) ∨ (k = 0 ∧ ¬ w.2.1.2.1 = -1 ∧ v = w.2.1.2.1))) → Qx (k - 1).toNat (J1, L, nw_top W n2) := fun k J1 n2 h2 f1 hk => by
      obtain ⟨v, k1, hk⟩ := hk
      have e := ho k v hk
      rw [of_o, if_neg (by omega)] at e
      subst e
      exact hQ J1 L (nw_top W n2) (h.q f1 h2) rfl h2
    have kV : ∀ (v : Int) (J1 : Nat → Int → Int), sp_wrk J J1 → (∃ k : Int, k = 0 ∧ ((k = 5 ∧ w.2.1.2.1 = -1) ∨ (k = 0 ∧ ¬ w.2.1.2.1 = -1 ∧ v = w.2.1.2.1))) → Qr (some (.inl v)) (J1, L, W) := fun v J1 f1 hk => by
      obtain ⟨k, k0, hk⟩ := hk
      have e := ho k v hk
      rw [of_o, if_pos k0] at e
      subst e
      exact hQ J1 L W (h.q (n := W.2.2.2.2) f1 (Nat.le_refl _)) rfl (Nat.le_refl _)
    have e9 : J 0 11 = w.2.1.2.1 := h.2.1.2.1
    refine b_X11_errorPosition_0 (by decide) (by decide) (by decide) ?_
    rw [e9]
    (repeat' (first | refine And.intro ?_ ?_ | refine fun _ => ?_))
    · exact kV _ J sp_wrk.refl ⟨0, by omega⟩
    · exact kE 5 J _ (by assumption) sp_wrk.refl ⟨0, by omega⟩
theorem q_errorPosition_u {w : of_S} {k v k' v' : Int} (h : q_errorPosition_s w k v) (h' : q_errorPosition_s w k' v') : k = k' ∧ (k = 0 → v = v') := by
  unfold q_errorPosition_s at h h'
  omega
def q_failedCommand_s (w : of_S) (k v : Int) : Prop := ((k = 5 ∧ w.2.1.2.2 = -1) ∨ (k = 0 ∧ ¬ w.2.1.2.2 = -1 ∧ v = w.2.1.2.2))
theorem q_failedCommand {w : of_S} {o : Nat ⊕ Option nw_V} (ho : ∀ k v, q_failedCommand_s w k v → o = of_o k v) : of_call d_X11_failedCommand [] w o w 0 := by
    unfold q_failedCommand_s at ho
    intro sc J L W B Qr Qx h hB hQ
    show NW sc d_X11_failedCommand 20 (0, [some (.inr (.inl (some 0)))], [], (J, L, W), 4, 24) Qr Qx
    have hA := h.1
    have R := sp_sh2.mp hA.1.1
    have I := hA.1.2.1
    obtain ⟨g, hg⟩ : ∃ g, g = w.1.1 := ⟨_, rfl⟩
    rw [← hg] at R I
    try rw [← hg] at ho
    have hbd := I.bd
    have hho := I.ho
    have hcr := I.cr
    have hch := I.ch
    have hfe := I.fe
    have hmo := I.mo
    have hnx := I.nx
    have c1 := R.cr
    have c2 := R.ch
    have c3 := R.fe
    have c4 := R.mo
    have c5 := R.ho
    have kE : ∀ (k : Int) (J1 : Nat → Int → Int) n2, W.2.2.2.2 ≤ n2 → sp_wrk J J1 → (∃ v : Int, 1 ≤ k ∧ ((k = 5 ∧ w.2.1.2.2 = -1) ∨ (k = 0 ∧ ¬ w.2.1.2.2 = -1 ∧ v = w.2.1.2.2))) → Qx (k - 1).toNat (J1, L, nw_top W n2) := fun k J1 n2 h2 f1 hk => by
      obtain ⟨v, k1, hk⟩ := hk
      have e := ho k v hk
      rw [of_o, if_neg (by omega)] at e
      subst e
      exact hQ J1 L (nw_top W n2) (h.q f1 h2) rfl h2
    have kV : ∀ (v : Int) (J1 : Nat → Int → Int), sp_wrk J J1 → (∃ k : Int, k = 0 ∧ ((k = 5 ∧ w.2.1.2.2 = -1) ∨ (k = 0 ∧ ¬ w.2.1.2.2 = -1 ∧ v = w.2.1.2.2))) → Qr (some (.inl v)) (J1, L, W) := fun v J1 f1 hk => by
      obtain ⟨k, k0, hk⟩ := hk
      have e := ho k v hk
      rw [of_o, if_pos k0] at e
      subst e
      exact hQ J1 L W (h.q (n := W.2.2.2.2) f1 (Nat.le_refl _)) rfl (Nat.le_refl _)
    have e9 : J 0 12 = w.2.1.2.2 := h.2.1.2.2
    refine b_X11_failedCommand_0 (by decide) (by decide) (by decide) ?_
    rw [e9]
    (repeat' (first | refine And.intro ?_ ?_ | refine fun _ => ?_))
    · exact kV _ J sp_wrk.refl ⟨0, by omega⟩
    · exact kE 5 J _ (by assumption) sp_wrk.refl ⟨0, by omega⟩
theorem q_failedCommand_u {w : of_S} {k v k' v' : Int} (h : q_failedCommand_s w k v) (h' : q_failedCommand_s w k' v') : k = k' ∧ (k = 0 → v = v') := by
  unfold q_failedCommand_s at h h'
  omega
end
