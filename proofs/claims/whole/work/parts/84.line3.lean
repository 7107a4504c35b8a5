/-! describing a ferry: the reference -/
section
variable {sc : Nat × (Nat → Int32)} {D : Nat} {J L : Nat → Int → Int} {W : nw_W} {c sl : Nat} {Qr : nw_QR} {Qx : nw_QX} {g : Int → Int} {B : Int}
def sp_md (J : Nat → Int → Int) (P : Int × (Int → Int)) (J1 : Nat → Int → Int) : Prop := (J1 303 12 = P.1 ∧ J1 309 = P.2) ∧ (∀ x, ¬ (x = 303 ∨ x = 309) → J1 x = J x) ∧ ∀ k, ¬ k = 12 → J1 303 k = J 303 k
section
variable {P : Int × (Int → Int)} {J0 : Nat → Int → Int}
theorem sp_md.w {J1 : Nat → Int → Int} {x y : Int} (h : sp_md J0 P J1) (e : y = x) : sp_md J0 (sp_aC x P) (nw_u (nw_u J1 309 P.1 y) 303 12 (P.1 + 1)) := by
  refine ⟨⟨nw_uS, ?_⟩, fun z w => ?_, fun k w => ?_⟩
  · rw [nw_uP (by decide)]
    funext k
    show _ = if k = P.1 then x else P.2 k
    by_cases z : k = P.1
    · rw [z, nw_uS, if_pos rfl, e]
    · rw [nw_uI z, if_neg z, h.1.2]
  · have w1 : ¬ z = 303 := fun e => w (Or.inl e)
    have w2 : ¬ z = 309 := fun e => w (Or.inr e)
    rw [nw_uP w1, nw_uP w2]
    exact h.2.1 z w
  · rw [nw_uI w, nw_uP (by decide)]
    exact h.2.2 k w
theorem t_wN {v : Int} (h : sp_md J0 P J) (hv : 0 ≤ v ∧ v < 1000000) (n0 : 0 ≤ P.1 ∧ P.1 + sp_nd10 v ≤ 80) (hD : 1 ≤ D) (hQ : ∀ J', sp_md J0 (sp_aN v P) J' → Qr none (J', L, W)) : NW sc d_X12_writesNumber D (0, [some (.inr (.inl (some 303))), some (.inl v), none], [], (J, L, W), c, sl) Qr Qx :=
  t_X12_writesNumber hv h.1.1 h.1.2 n0 hD (fun J' a1 a2 a3 a4 => hQ J' ⟨⟨a3, a4⟩, fun x w => (a1 x w).trans (h.2.1 x w), fun k w => (a2 k w).trans (h.2.2 k w)⟩)
end
theorem t_X12_describeFerry {f : Int} (hI : Inv (J 304) B) (hD : 3 ≤ D) (hE : ¬ sp_isF (J 304) f → Qr (some (.inl 0)) (nw_u J 303 13 1, L, W)) (hQ : sp_isF (J 304) f → ∀ J', (∀ x, ¬ (x = 303 ∨ x = 309) → J' x = J x) → (∀ k, ¬ (k = 12 ∨ k = 13) → J' 303 k = J 303 k) → J' 303 12 = (sp_line (J 304) f (J 309)).1 → J' 309 = (sp_line (J 304) f (J 309)).2 → J' 303 13 = 0 → Qr (some (.inl (sp_line (J 304) f (J 309)).1)) (J', L, W)) : NW sc d_X12_describeFerry D (0, [some (.inr (.inl (some 303))), some (.inl f), none], [], (J, L, W), c, sl) Qr Qx := by
  obtain ⟨g, hg⟩ : ∃ g, J 304 = g := ⟨_, rfl⟩
  have hI' := hI
  rw [hg] at hI hE hQ
  obtain ⟨l, hl⟩ : ∃ l, J 309 = l := ⟨_, rfl⟩
  rw [hl] at hQ
  have k3 := hI.fe
  have k4 := hI.mo
  have k5 := hI.nx
  have kb := hI.bd
  have kc := hI.cr
  have kh := hI.ho
  have sS := sp_sS_rng g f
  unfold sp_isF at hE hQ
  refine b_X12_describeFerry_0 hD ?_
  rw [hg]
  refine ⟨by omega, fun q => hE (by omega), fun q1 => ⟨fun q => hE (by omega), fun q2 => ?_⟩⟩
  have hf : 0 ≤ f ∧ f < g 3 := ⟨q1, by omega⟩
  have fi := hI.fer f hf.1 hf.2
  have ndf := sp_nd10_1 (x := f) (by omega)
  have ndc := sp_nd10_1 (x := g (56 + f)) (by omega)
  have m0 : sp_md J (0, l) (nw_u J 303 12 0) := ⟨⟨nw_uS, by rw [nw_uP (by decide)]; exact hl⟩, fun x w => nw_uP (fun e => w (Or.inl e)), fun k w => nw_uI w⟩
  have g4 : ∀ {P J1}, sp_md J P J1 → J1 304 = g := fun h => (h.2.1 304 (by decide)).trans hg
  refine t_wN m0 (by omega) ⟨Int.le_refl _, by show (0 : Int) + sp_nd10 f ≤ 80; omega⟩ (by decide) (fun J1 h1 => b_X12_describeFerry_24 hD ?_)
  have p1 : (sp_aN f (0, l)).1 = 0 + sp_nd10 f := rfl
  have loop : ∀ J2, sp_md J (sp_lpos g f (sp_aN f (0, l))) J2 → NW sc d_X12_describeFerry D (95, [some (.inr (.inl (some 303))), some (.inl f), some (.inl 0)], [], (J2, L, W), c, sl) Qr Qx := fun J2 h2 => by
    have bp := sp_lpos_bd (P := sp_aN f (0, l)) hI hf
    have lp : ∀ (r i : Nat) (J3 : Nat → Int → Int), (i : Int) ≤ g 4 → (g 4).toNat - i = r → sp_md J (sp_lmo g f (sp_lpos g f (sp_aN f (0, l))) i) J3 → NW sc d_X12_describeFerry D (95, [some (.inr (.inl (some 303))), some (.inl f), some (.inl ((i : Int)))], [], (J3, L, W), c, sl) Qr Qx := by
      intro r
      induction r with
      | zero =>
        intro i J3 hi hr h3
        have e : i = (g 4).toNat := by omega
        subst e
        refine b_X12_describeFerry_95 hD ?_
        rw [g4 h3]
        refine ⟨fun _ => ?_, fun q => by omega⟩
        rw [h3.1.1]
        refine hQ hf _ (fun x w => ?_) (fun k w => ?_) ?_ ?_ nw_uS
        · rw [nw_uP (fun e => w (Or.inl e))]
          exact h3.2.1 x w
        · rw [nw_uI (fun e => w (Or.inr e))]
          exact h3.2.2 k (fun e => w (Or.inl e))
        · rw [nw_uI (by decide)]
          exact h3.1.1
        · rw [nw_uP (by decide)]
          exact h3.1.2
      | succ r ih =>
        intro i J3 hi hr h3
        have bd := sp_lmo_bd (g := g) (f := f) (P := sp_lpos g f (sp_aN f (0, l))) i
        have mi := hI.moo i (by omega) (by omega)
        have nd := sp_nd10_rng (g (71 + (i : Int)))
        have e1 : (i : Int) + 1 = ((i + 1 : Nat) : Int) := by omega
        refine b_X12_describeFerry_95 hD ?_
        rw [g4 h3, h3.1.1]
        refine ⟨fun q => by omega, fun q => ⟨by omega, by omega, by omega, fun z => ⟨by omega, ?_⟩, fun z => ⟨by omega, by omega, by omega, by omega, ?_⟩⟩⟩
        · rw [e1]
          have nx : sp_lmo g f (sp_lpos g f (sp_aN f (0, l))) (i + 1) = sp_lmo g f (sp_lpos g f (sp_aN f (0, l))) i := if_neg z
          exact ih (i + 1) J3 (by omega) (by omega) (by rw [nx]; exact h3)
        · have nx : sp_lmo g f (sp_lpos g f (sp_aN f (0, l))) (i + 1) = sp_aN (g (71 + (i : Int))) (sp_aC 32 (sp_lmo g f (sp_lpos g f (sp_aN f (0, l))) i)) := if_pos z
          have q2 : (sp_aC 32 (sp_lmo g f (sp_lpos g f (sp_aN f (0, l))) i)).1 = (sp_lmo g f (sp_lpos g f (sp_aN f (0, l))) i).1 + 1 := rfl
          refine t_wN (h3.w (x := 32) (by decide)) (by omega) ⟨by omega, by omega⟩ (by decide) (fun J4 h4 => b_X12_describeFerry_140 ⟨by omega, ?_⟩)
          rw [e1]
          exact ih (i + 1) J4 (by omega) (by omega) (by rw [nx]; exact h4)
    exact lp _ 0 J2 (by omega) rfl h2
  have hst : ∀ {P J1}, sp_md J P J1 → Inv (J1 304) B := fun h => by rw [g4 h]; exact hI
  rw [g4 h1, h1.1.1]
  refine ⟨by omega, by omega, fun z => ⟨by omega, by omega, by omega, by omega, ?_⟩, fun z => ⟨by omega, by omega, by omega, by omega, ?_⟩⟩
  · have p2 : (sp_aC 64 (sp_aN f (0, l))).1 = 0 + sp_nd10 f + 1 := rfl
    have p3 : (sp_aN (g (56 + f)) (sp_aC 64 (sp_aN f (0, l)))).1 = 0 + sp_nd10 f + 1 + sp_nd10 (g (56 + f)) := rfl
    refine t_wN (h1.w (x := 64) (by decide)) (by omega) ⟨by omega, by omega⟩ (by decide) (fun J2 h2 => b_X12_describeFerry_56 hD ?_)
    rw [g4 h2, h2.1.1]
    refine ⟨by omega, by omega, fun _ => ?_, fun w => by omega⟩
    refine t_X12_isStuck (hst h2) (by rw [g4 h2]; exact hf) (by decide) (fun y => ?_) (fun y => ?_)
    · rw [g4 h2] at y
      have y1 : sp_sS g f = 1 := sp_bT y
      refine b_X12_describeFerry_84 hD ⟨fun w => absurd w (by decide), fun _ => ?_⟩
      rw [h2.1.1]
      refine ⟨by omega, by omega, loop _ ?_⟩
      have e : sp_lpos g f (sp_aN f (0, l)) = sp_aC 33 (sp_aN (g (56 + f)) (sp_aC 64 (sp_aN f (0, l)))) := by
        unfold sp_lpos
        rw [if_neg (by omega), if_pos y1]
      rw [e]
      exact h2.w (x := 33) (by decide)
    · rw [g4 h2] at y
      have y0 : sp_sS g f = 0 := sp_bF y
      refine b_X12_describeFerry_84 hD ⟨fun _ => loop _ ?_, fun w => absurd rfl w⟩
      have e : sp_lpos g f (sp_aN f (0, l)) = sp_aN (g (56 + f)) (sp_aC 64 (sp_aN f (0, l))) := by
        unfold sp_lpos
        rw [if_neg (by omega), if_neg (by omega)]
      rw [e]
      exact h2
  · have p2 : (sp_aC 62 (sp_aN f (0, l))).1 = 0 + sp_nd10 f + 1 := rfl
    have p3 : (sp_aN (g (56 + f)) (sp_aC 62 (sp_aN f (0, l)))).1 = 0 + sp_nd10 f + 1 + sp_nd10 (g (56 + f)) := rfl
    have p4 : (sp_aC 120 (sp_aN (g (56 + f)) (sp_aC 62 (sp_aN f (0, l))))).1 = 0 + sp_nd10 f + 1 + sp_nd10 (g (56 + f)) + 1 := rfl
    have ndl := sp_nd10_rng (g (62 + f) - g 0)
    refine t_wN (h1.w (x := 62) (by decide)) (by omega) ⟨by omega, by omega⟩ (by decide) (fun J2 h2 => b_X12_describeFerry_56 hD ?_)
    rw [g4 h2, h2.1.1]
    refine ⟨by omega, by omega, fun w => by omega, fun _ => ⟨by omega, by omega, by omega, ?_⟩⟩
    refine t_wN (h2.w (x := 120) (by decide)) (by omega) ⟨by omega, by omega⟩ (by decide) (fun J3 h3 => b_X12_describeFerry_79 hD ?_)
    have e : sp_lpos g f (sp_aN f (0, l)) = sp_aN (g (62 + f) - g 0) (sp_aC 120 (sp_aN (g (56 + f)) (sp_aC 62 (sp_aN f (0, l))))) := by
      unfold sp_lpos
      rw [if_pos z]
    have h3' : sp_md J (sp_lpos g f (sp_aN f (0, l))) J3 := by rw [e]; exact h3
    refine t_X12_isStuck (hst h3) (by rw [g4 h3]; exact hf) (by decide) (fun y => ?_) (fun y => b_X12_describeFerry_84 hD ⟨fun _ => loop _ h3', fun w => absurd rfl w⟩)
    rw [g4 h3] at y
    unfold sp_stk sp_sea at y
    exact absurd z y.1
theorem t_X12_lineAt {i n : Int} (hn : J 303 12 = n) (n0 : 0 ≤ n ∧ n ≤ 80) (hl : ∀ k, 0 ≤ k → k < n → 0 ≤ J 309 k ∧ J 309 k < 128) (hD : 1 ≤ D) (hE : ¬ (0 ≤ i ∧ i < n) → Qr (some (.inl 0)) (nw_u J 303 13 1, L, W)) (hQ : 0 ≤ i → i < n → Qr (some (.inl (J 309 i))) (nw_u J 303 13 0, L, W)) : NW sc d_X12_lineAt D (0, [some (.inr (.inl (some 303))), some (.inl i)], [], (J, L, W), c, sl) Qr Qx := by
  refine b_X12_lineAt_0 hD ?_
  rw [hn]
  refine ⟨by omega, fun q => hE (by omega), fun q => ⟨fun q1 => hE (by omega), fun q1 => ?_⟩⟩
  have h := hl i q (by omega)
  exact ⟨by omega, by omega, hQ q (by omega)⟩
end
