/-! the line: both sides -/
section
variable {sc : Nat × (Nat → Int32)} {D : Nat} {J L : Nat → Int → Int} {W : nw_W} {c sl : Nat} {Qr : nw_QR} {Qx : nw_QX} {g : Int → Int} {B : Int}
def sp_aC (x : Int) (P : Int × (Int → Int)) : Int × (Int → Int) := (P.1 + 1, fun k => if k = P.1 then x else P.2 k)
def sp_aN (x : Int) (P : Int × (Int → Int)) : Int × (Int → Int) := (P.1 + sp_nd10 x, sp_num P.1 x P.2)
noncomputable def sp_lpos (g : Int → Int) (f : Int) (P : Int × (Int → Int)) : Int × (Int → Int) :=
  if 0 < g (62 + f) then sp_aN (g (62 + f) - g 0) (sp_aC 120 (sp_aN (g (56 + f)) (sp_aC 62 P))) else if sp_sS g f = 1 then sp_aC 33 (sp_aN (g (56 + f)) (sp_aC 64 P)) else sp_aN (g (56 + f)) (sp_aC 64 P)
def sp_lmo (g : Int → Int) (f : Int) (P : Int × (Int → Int)) : Nat → Int × (Int → Int)
  | 0 => P
  | k + 1 => if g (121 + k) = 10 + f then sp_aN (g (71 + k)) (sp_aC 32 (sp_lmo g f P k)) else sp_lmo g f P k
noncomputable def sp_line (g : Int → Int) (f : Int) (l : Int → Int) : Int × (Int → Int) := sp_lmo g f (sp_lpos g f (sp_aN f (0, l))) (g 4).toNat
/-- the same letters -/
def sp_le2 (P Q : Int × (Int → Int)) : Prop := P.1 = Q.1 ∧ ∀ k, 0 ≤ k → k < P.1 → P.2 k = Q.2 k ∧ 0 ≤ P.2 k ∧ P.2 k < 128
theorem sp_le2.sg {P Q : Int × (Int → Int)} {x : Int} (h : sp_le2 P Q) (hx : 0 ≤ x ∧ x < 128) : sp_le2 (sp_aC x P) (sp_aC x Q) := by
  refine ⟨by show P.1 + 1 = Q.1 + 1; rw [h.1], fun k k0 k1 => ?_⟩
  have k1 : k < P.1 + 1 := k1
  show (if k = P.1 then x else P.2 k) = (if k = Q.1 then x else Q.2 k) ∧ 0 ≤ (if k = P.1 then x else P.2 k) ∧ (if k = P.1 then x else P.2 k) < 128
  rw [← h.1]
  by_cases z : k = P.1
  · rw [if_pos z, if_pos z]
    exact ⟨rfl, hx⟩
  · rw [if_neg z, if_neg z]
    exact h.2 k k0 (by omega)
theorem sp_le2.n {P Q : Int × (Int → Int)} {x : Int} (h : sp_le2 P Q) : sp_le2 (sp_aN x P) (sp_aN x Q) := by
  refine ⟨by show P.1 + sp_nd10 x = Q.1 + sp_nd10 x; rw [h.1], fun k k0 k1 => ?_⟩
  have k1 : k < P.1 + sp_nd10 x := k1
  show (if P.1 ≤ k ∧ k < P.1 + sp_nd10 x then 48 + x / 10 ^ (P.1 + sp_nd10 x - 1 - k).toNat % 10 else P.2 k) = (if Q.1 ≤ k ∧ k < Q.1 + sp_nd10 x then 48 + x / 10 ^ (Q.1 + sp_nd10 x - 1 - k).toNat % 10 else Q.2 k) ∧ 0 ≤ (if P.1 ≤ k ∧ k < P.1 + sp_nd10 x then 48 + x / 10 ^ (P.1 + sp_nd10 x - 1 - k).toNat % 10 else P.2 k) ∧ (if P.1 ≤ k ∧ k < P.1 + sp_nd10 x then 48 + x / 10 ^ (P.1 + sp_nd10 x - 1 - k).toNat % 10 else P.2 k) < 128
  rw [← h.1]
  by_cases z : P.1 ≤ k ∧ k < P.1 + sp_nd10 x
  · rw [if_pos z, if_pos z]
    exact ⟨rfl, by omega, by omega⟩
  · rw [if_neg z, if_neg z]
    exact h.2 k k0 (by omega)
theorem sp_le2_line {g : Int → Int} {f : Int} {l l' : Int → Int} : sp_le2 (sp_line g f l) (sp_line g f l') := by
  have h0 : sp_le2 (sp_aN f (0, l)) (sp_aN f (0, l')) := sp_le2.n ⟨rfl, fun k k0 k1 => by have k1 : k < 0 := k1; omega⟩
  have h1 : sp_le2 (sp_lpos g f (sp_aN f (0, l))) (sp_lpos g f (sp_aN f (0, l'))) := by
    unfold sp_lpos
    split
    · exact (((h0.sg ⟨by decide, by decide⟩).n).sg ⟨by decide, by decide⟩).n
    · split
      · exact ((h0.sg ⟨by decide, by decide⟩).n).sg ⟨by decide, by decide⟩
      · exact (h0.sg ⟨by decide, by decide⟩).n
  have h2 : ∀ n : Nat, sp_le2 (sp_lmo g f (sp_lpos g f (sp_aN f (0, l))) n) (sp_lmo g f (sp_lpos g f (sp_aN f (0, l'))) n) := by
    intro n
    induction n with
    | zero => exact h1
    | succ n ih =>
      rw [sp_lmo, sp_lmo]
      split
      · exact (ih.sg ⟨by decide, by decide⟩).n
      · exact ih
  exact h2 _
theorem sp_nd10_1 {x : Int} (h : x < 10) : sp_nd10 x = 1 := if_pos h
theorem sp_lpos_bd {g : Int → Int} {B f : Int} (hI : Inv g B) (hf : 0 ≤ f ∧ f < g 3) {P : Int × (Int → Int)} : P.1 ≤ (sp_lpos g f P).1 ∧ (sp_lpos g f P).1 ≤ P.1 + 4 := by
  have kc := hI.cr
  have fi := hI.fer f hf.1 hf.2
  have d1 := sp_nd10_1 (x := g (56 + f)) (by omega)
  unfold sp_lpos
  split
  · have d2 := sp_nd10_1 (x := g (62 + f) - g 0) (by omega)
    show P.1 ≤ P.1 + 1 + sp_nd10 (g (56 + f)) + 1 + sp_nd10 (g (62 + f) - g 0) ∧ P.1 + 1 + sp_nd10 (g (56 + f)) + 1 + sp_nd10 (g (62 + f) - g 0) ≤ P.1 + 4
    omega
  · split
    · show P.1 ≤ P.1 + 1 + sp_nd10 (g (56 + f)) + 1 ∧ P.1 + 1 + sp_nd10 (g (56 + f)) + 1 ≤ P.1 + 4
      omega
    · show P.1 ≤ P.1 + 1 + sp_nd10 (g (56 + f)) ∧ P.1 + 1 + sp_nd10 (g (56 + f)) ≤ P.1 + 4
      omega
theorem sp_lmo_bd {g : Int → Int} {f : Int} {P : Int × (Int → Int)} : ∀ n : Nat, P.1 ≤ (sp_lmo g f P n).1 ∧ (sp_lmo g f P n).1 ≤ P.1 + 7 * n
  | 0 => ⟨Int.le_refl _, by show P.1 ≤ P.1 + 7 * ((0 : Nat) : Int); omega⟩
  | n + 1 => by
    have ih := sp_lmo_bd (g := g) (f := f) (P := P) n
    have d := sp_nd10_rng (g (71 + (n : Int)))
    rw [sp_lmo]
    split
    · show P.1 ≤ (sp_lmo g f P n).1 + 1 + sp_nd10 (g (71 + (n : Int))) ∧ (sp_lmo g f P n).1 + 1 + sp_nd10 (g (71 + (n : Int))) ≤ P.1 + 7 * ((n + 1 : Nat) : Int)
      omega
    · omega
section
variable {P : Int × (Int → Int)} {m : Nat}
theorem t_apC {x : Int} (h : sp_sb J W P.1 P.2 m) (hx : 0 ≤ x ∧ x < 128) (hn1 : P.1 ≤ 141) (hn : W.2.2.2.2 < 1000000) (hD : 12 ≤ D) (hc : 1 ≤ c) (hs : 150 ≤ sl) (hQ : ∀ J' L' W' m', sp_sb J' W' (sp_aC x P).1 (sp_aC x P).2 m' → sp_lf J J' → (∀ y, y < 303 → L' y = L y) → sp_wf W W' 1 → Qr (some (.inr (.inl (some 301)))) (J', L', W')) : NW sc d_J4_append_cf468 D (0, [some (.inr (.inl (some 301))), some (.inl x)], [], (J, L, W), c, sl) Qr Qx :=
  t_appendC h hx (by omega) hn hD hc hs hQ
theorem t_apI {x : Int} (h : sp_sb J W P.1 P.2 m) (hx : 0 ≤ x ∧ x < 1000000) (hn1 : P.1 ≤ 136) (hn : W.2.2.2.2 < 1000000) (hD : 12 ≤ D) (hc : 1 ≤ c) (hs : 150 ≤ sl) (hQ : ∀ J' L' W' m', sp_sb J' W' (sp_aN x P).1 (sp_aN x P).2 m' → sp_lf J J' → (∀ y, y < 303 → L' y = L y) → sp_wf W W' 1 → Qr (some (.inr (.inl (some 301)))) (J', L', W')) : NW sc d_J4_append_bf812 D (0, [some (.inr (.inl (some 301))), some (.inl x)], [], (J, L, W), c, sl) Qr Qx :=
  t_appendI h hx (by omega) hn hD hc hs hQ
theorem RC.lf {J J' L L' : Nat → Int → Int} {g : Int → Int} {B : Int} (h : RC J L g) (hI : Inv g B) (f : sp_lf J J') (l : ∀ y, y < 303 → L' y = L y) : RC J' L' g := by
  have r := h.keep hI (fun x a b => f x (by omega))
  exact ⟨r.s.to rfl (l 2 (by decide)) ⟨rfl, rfl, rfl⟩, r.2⟩
theorem t_X11_writePosition {f : Int} (hR : RC J L g) (hI : Inv g B) (hf : 0 ≤ f ∧ f < g 3) (h : sp_sb J W P.1 P.2 m) (hp : 0 ≤ P.1 ∧ P.1 ≤ 100) (hn : W.2.2.2.2 + 10 < 1000000) (hD : 13 ≤ D) (hc : 4 ≤ c) (hs : 600 ≤ sl) (hQ : ∀ J' L' W' m', sp_sb J' W' (sp_lpos g f P).1 (sp_lpos g f P).2 m' → sp_lf J J' → (∀ y, y < 303 → L' y = L y) → sp_wf W W' 4 → Qr none (J', L', W')) : NW sc d_X11_writePosition D (0, [some (.inr (.inl (some 0))), some (.inl f)], [], (J, L, W), c, sl) Qr Qx := by
  have kc := hI.cr
  have k3 := hI.fe
  have kh := hI.ho
  have fi := hI.fer f hf.1 hf.2
  have fr := hR.fer f hf.1 hf.2
  have nd := sp_nd10_1 (x := g (56 + f)) (by omega)
  have sS := sp_sS_rng g f
  have q1 : (sp_aN (g (56 + f)) (sp_aC 64 P)).1 = P.1 + 1 + sp_nd10 (g (56 + f)) := rfl
  have q2 : (sp_aC 64 P).1 = P.1 + 1 := rfl
  have q3 : (sp_aN (g (56 + f)) (sp_aC 62 P)).1 = P.1 + 1 + sp_nd10 (g (56 + f)) := rfl
  have q4 : (sp_aC 62 P).1 = P.1 + 1 := rfl
  have q5 : (sp_aC 120 (sp_aN (g (56 + f)) (sp_aC 62 P))).1 = P.1 + 1 + sp_nd10 (g (56 + f)) + 1 := rfl
  unfold sp_lpos at hQ
  refine b_X11_writePosition_0 hD (by omega) (by omega) ⟨by omega, fun z => ?_, fun z => ?_⟩
  · rw [if_neg (by omega)] at hQ
    refine t_apC h ⟨by decide, by decide⟩ (by omega) (by omega) (by decide) (by decide) (by decide) (fun J1 L1 W1 m1 s1 f1 l1 w1 => ?_)
    have R1 := hR.lf hI f1 l1
    have v1 := w1.2.2.2
    refine b_X11_writePosition_70 hD (by omega) (by omega) ⟨by omega, ?_⟩
    rw [show J1 10 f = g (56 + f) by have := R1.fer f hf.1 hf.2; omega]
    refine t_apI s1 (by omega) (by omega) (by omega) (by decide) (by decide) (by decide) (fun J2 L2 W2 m2 s2 f2 l2 w2 => ?_)
    have R2 := R1.lf hI f2 l2
    have v2 := w2.2.2.2
    have w12 := w1.trans w2
    refine b_X11_writePosition_85 hD (t_X8_aground R2 hI hf (by decide) (fun y => ?_) (fun y => ?_))
    · have y1 : sp_sS g f = 1 := sp_bT y
      rw [if_pos y1] at hQ
      refine b_X11_writePosition_94 hD (by omega) (by omega) ⟨fun w => absurd w (by decide), fun _ => ?_⟩
      refine t_apC s2 ⟨by decide, by decide⟩ (by omega) (by omega) (by decide) (by decide) (by decide) (fun J3 L3 W3 m3 s3 f3 l3 w3 => b_X11_writePosition_106 ?_)
      have w13 := w12.trans w3
      exact hQ J3 L3 W3 m3 s3 ((f1.trans f2).trans f3) (fun y w => by rw [l3 y w, l2 y w, l1 y w]) ⟨w13.1, w13.2.1, w13.2.2.1, by have := w13.2.2.2; omega⟩
    · have y0 : sp_sS g f = 0 := sp_bF y
      rw [if_neg (by omega)] at hQ
      refine b_X11_writePosition_94 hD (by omega) (by omega) ⟨fun _ => ?_, fun w => absurd rfl w⟩
      exact hQ J2 L2 W2 m2 s2 (f1.trans f2) (fun y w => by rw [l2 y w, l1 y w]) ⟨w12.1, w12.2.1, w12.2.2.1, by have := w12.2.2.2; omega⟩
  · rw [if_pos (by omega)] at hQ
    refine t_apC h ⟨by decide, by decide⟩ (by omega) (by omega) (by decide) (by decide) (by decide) (fun J1 L1 W1 m1 s1 f1 l1 w1 => ?_)
    have R1 := hR.lf hI f1 l1
    have v1 := w1.2.2.2
    refine b_X11_writePosition_23 hD (by omega) (by omega) ⟨by omega, ?_⟩
    rw [show J1 11 f = g (56 + f) by have := R1.fer f hf.1 hf.2; have := f1 11 (by omega); rw [this]; omega]
    refine t_apI s1 (by omega) (by omega) (by omega) (by decide) (by decide) (by decide) (fun J2 L2 W2 m2 s2 f2 l2 w2 => ?_)
    have v2 := w2.2.2.2
    have w12 := w1.trans w2
    refine b_X11_writePosition_38 hD (by omega) (by omega) ?_
    refine t_apC s2 ⟨by decide, by decide⟩ (by omega) (by omega) (by decide) (by decide) (by decide) (fun J3 L3 W3 m3 s3 f3 l3 w3 => ?_)
    have v3 := w3.2.2.2
    have w13 := w12.trans w3
    have f13 := (f1.trans f2).trans f3
    refine b_X11_writePosition_48 hD (by omega) (by omega) ⟨by omega, ?_⟩
    rw [f13 11 (by omega), f13 12 (by omega), f13 2 (by omega), hR.ho]
    refine ⟨fun w => absurd w z, fun _ => ⟨by omega, ?_⟩⟩
    rw [show J 12 f = g (62 + f) by omega]
    refine t_apI s3 (by omega) (by omega) (by omega) (by decide) (by decide) (by decide) (fun J4 L4 W4 m4 s4 f4 l4 w4 => b_X11_writePosition_59 ?_)
    have w14 := w13.trans w4
    exact hQ J4 L4 W4 m4 s4 (f13.trans f4) (fun y w => by rw [l4 y w, l3 y w, l2 y w, l1 y w]) w14
theorem t_X11_writeMoonsAboard {f : Int} (hR : RC J L g) (hI : Inv g B) (hf : 0 ≤ f ∧ f < g 3) (h : sp_sb J W P.1 P.2 m) (hp : 0 ≤ P.1 ∧ P.1 ≤ 30) (hn : W.2.2.2.2 + 30 < 1000000) (hD : 13 ≤ D) (hc : 20 ≤ c) (hs : 3000 ≤ sl) (hQ : ∀ J' L' W' m', sp_sb J' W' (sp_lmo g f P (g 4).toNat).1 (sp_lmo g f P (g 4).toNat).2 m' → sp_lf J J' → (∀ y, y < 303 → L' y = L y) → sp_wf W W' 20 → Qr none (J', L', W')) : NW sc d_X11_writeMoonsAboard D (0, [some (.inr (.inl (some 0))), some (.inl f), none, none], [], (J, L, W), c, sl) Qr Qx := by
  have k4 := hI.mo
  have k5 := hI.nx
  have kb := hI.bd
  have k3 := hI.fe
  refine b_X11_writeMoonsAboard_0 ?_
  have lp : ∀ (r i : Nat) (J1 L1 : Nat → Int → Int) (W1 : nw_W) (m1 c1 sl1 : Nat), (i : Int) ≤ g 4 → (g 4).toNat - i = r → 2 * r ≤ c1 → 300 * r ≤ sl1 → sp_sb J1 W1 (sp_lmo g f P i).1 (sp_lmo g f P i).2 m1 → sp_lf J J1 → (∀ y, y < 303 → L1 y = L y) → sp_wf W W1 (2 * i) → NW sc d_X11_writeMoonsAboard D (10, [some (.inr (.inl (some 0))), some (.inl f), some (.inr (.inl (some 18))), some (.inl (i : Int))], [], (J1, L1, W1), c1, sl1) Qr Qx := by
    intro r
    induction r with
    | zero =>
      intro i J1 L1 W1 m1 c1 sl1 hi hr hc1 hs1 s1 f1 l1 w1
      have R1 := hR.lf hI f1 l1
      have e : i = (g 4).toNat := by omega
      subst e
      have z : J1 18 0 ≤ ((g 4).toNat : Int) := by rw [R1.mo]; omega
      refine nw_iload_n l_X11_writeMoonsAboard_10 11 rfl rfl ?_
      refine nw_aload_n l_X11_writeMoonsAboard_11 12 rfl rfl ?_
      refine nw_getI l_X11_writeMoonsAboard_12 15 rfl k_18 (v := J1 18 0) rfl ?_
      refine nw_ic_ge l_X11_writeMoonsAboard_15 18 rfl (fun _ => ?_) (fun q => by omega)
      refine nw_return l_X11_writeMoonsAboard_53 rfl ?_
      exact hQ J1 L1 W1 m1 s1 f1 l1 ⟨w1.1, w1.2.1, w1.2.2.1, by have := w1.2.2.2; omega⟩
    | succ r ih =>
      intro i J1 L1 W1 m1 c1 sl1 hi hr hc1 hs1 s1 f1 l1 w1
      have R1 := hR.lf hI f1 l1
      have v1 := w1.2.2.2
      have bd := sp_lmo_bd (g := g) (f := f) (P := P) i
      have mr := R1.moo i (by omega) (by omega)
      have mi := hI.moo i (by omega) (by omega)
      have e1 : (i : Int) + 1 = ((i + 1 : Nat) : Int) := by omega
      refine b_X11_writeMoonsAboard_10 hD (by omega) (by omega) ?_
      rw [R1.mo]
      refine ⟨fun q => by omega, fun q => ⟨by omega, fun z => ⟨by omega, ?_⟩, fun z => ?_⟩⟩
      · rw [e1]
        have nx : sp_lmo g f P (i + 1) = sp_lmo g f P i := if_neg (by omega)
        exact ih (i + 1) J1 L1 W1 m1 c1 sl1 (by omega) (by omega) (by omega) (by omega) (by rw [nx]; exact s1) f1 l1 ⟨w1.1, w1.2.1, w1.2.2.1, by omega⟩
      · have nx : sp_lmo g f P (i + 1) = sp_aN (g (71 + (i : Int))) (sp_aC 32 (sp_lmo g f P i)) := if_pos (by omega)
        have q2 : (sp_aC 32 (sp_lmo g f P i)).1 = (sp_lmo g f P i).1 + 1 := rfl
        refine t_apC s1 ⟨by decide, by decide⟩ (by omega) (by omega) (by decide) (by decide) (by decide) (fun J2 L2 W2 m2 s2 f2 l2 w2 => ?_)
        have v2 := w2.2.2.2
        refine b_X11_writeMoonsAboard_37 hD (by omega) (by omega) ⟨by omega, ?_⟩
        rw [show J2 19 i = g (71 + (i : Int)) by rw [f2 19 (by omega)]; exact mr.1]
        refine t_apI s2 (by omega) (by omega) (by omega) (by decide) (by decide) (by decide) (fun J3 L3 W3 m3 s3 f3 l3 w3 => b_X11_writeMoonsAboard_46 ⟨by omega, ?_⟩)
        have w13 := (w1.trans w2).trans w3
        rw [e1]
        exact ih (i + 1) J3 L3 W3 m3 _ _ (by omega) (by omega) (by omega) (by omega) (by rw [nx]; exact s3) ((f1.trans f2).trans f3) (fun y w => by rw [l3 y w, l2 y w, l1 y w]) ⟨w13.1, w13.2.1, w13.2.2.1, by have := w13.2.2.2; omega⟩
  exact lp _ 0 J L W m c sl (by omega) rfl (by omega) (by omega) h sp_lf.refl (fun _ _ => rfl) sp_wf.refl
end
end

