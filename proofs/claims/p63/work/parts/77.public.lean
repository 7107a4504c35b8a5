/-! the public changes -/
section
variable {sc : Nat × (Nat → Int32)} {D : Nat} {J L : Nat → Int → Int} {W : nw_W} {c sl : Nat} {Qr : nw_QR} {Qx : nw_QX} {g : Int → Int} {B : Int}
/-- the class: its state, history, what was saved -/
def sp_cA (J L : Nat → Int → Int) (W : nw_W) (g : Int → Int) (n : Int) (G : Nat → Int → Int) (v : Int) (S : Int → Int) (B : Int) : Prop := sp_ok 2 J L g B ∧ (sp_hp W ∧ J 103 0 = n ∧ 0 ≤ n ∧ n ≤ 8) ∧ (∀ k : Nat, (k : Int) < n → sp_ok (W.2.1 k) J L (G k) B) ∧ (J 0 10 = v ∧ (¬ v = 0 → sp_ok 79 J L S B))
theorem sp_cA.keep {J J' L L' : Nat → Int → Int} {W : nw_W} {g : Int → Int} {n v B : Int} {G : Nat → Int → Int} {S : Int → Int} (h : sp_cA J L W g n G v S B) (e : ∀ x, ((2 ≤ x ∧ x ≤ 25) ∨ (79 ≤ x ∧ x ≤ 296)) → J' x = J x) (el : ∀ x, ((2 ≤ x ∧ x ≤ 25) ∨ (79 ≤ x ∧ x ≤ 296)) → L' x = L x) (e0 : J' 0 10 = J 0 10) : sp_cA J' L' W g n G v S B := by
  refine ⟨h.1.keep (fun x a b => e x (by omega)) (el 2 (by omega)), ⟨h.2.1.1, by rw [e 103 (by omega)]; exact h.2.1.2.1, h.2.1.2.2⟩, fun k hk => ?_, by rw [e0]; exact h.2.2.2.1, fun z => (h.2.2.2.2 z).keep (fun x a b => e x (by omega)) (el 79 (by omega))⟩
  have hp := h.2.1.1.1 k (by have := h.2.1.2.2.2; omega)
  have le := nw_st_le hp.1
  exact (h.2.2.1 k hk).keep (fun x a b => e x (by omega)) (el _ (by omega))
theorem sp_cA.op {J J' L L' : Nat → Int → Int} {W : nw_W} {g g' : Int → Int} {n v B : Int} {G : Nat → Int → Int} {S : Int → Int} (h : sp_cA J L W g n G v S B) (hB : B + 200 ≤ 4000000) (e : sp_fr 2 54 J J') (el : sp_fr 2 2 L L') (hR : RC J' L' g') (hi : Inv g' (B + 200) ∧ sp_fut g') : sp_cA J' L' W g' n G v S (B + 200) := by
  refine ⟨⟨sp_sh2.mpr hR, hi⟩, ⟨h.2.1.1, by rw [e 103 (by omega)]; exact h.2.1.2.1, h.2.1.2.2⟩, fun k hk => ?_, by rw [e 0 (by omega)]; exact h.2.2.2.1, fun z => ((h.2.2.2.2 z).keep (fun x a b => e x (by omega)) (el 79 (by omega))).up (by omega) hB⟩
  have hp := h.2.1.1.1 k (by have := h.2.1.2.2.2; omega)
  have le := nw_st_le hp.1
  exact ((h.2.2.1 k hk).keep (fun x a b => e x (by omega)) (el _ (by omega))).up (by omega) hB
def sp_jf (J J' : Nat → Int → Int) : Prop := ∀ x, ¬ ((1 ≤ x ∧ x ≤ 78) ∨ (103 ≤ x ∧ x ≤ 296)) → J' x = J x
theorem sp_jf.trans {J J1 J2 : Nat → Int → Int} (h : sp_jf J J1) (k : sp_jf J1 J2) : sp_jf J J2 := fun x w => (k x w).trans (h x w)
section
variable {n v : Int} {G : Nat → Int → Int} {S : Int → Int}
theorem t_before (h : sp_cA J L W g n G v S B) (hD : 1 ≤ D) (hQ : ∀ J' L', (∀ x, ¬ (55 ≤ x ∧ x ≤ 78) → J' x = J x) → (∀ x, ¬ x = 55 → L' x = L x) → sp_cA J' L' W g n G v S B → sp_ok 55 J' L' g B → Qr none (J', L', W)) : NW sc d_X8_copyFrom D (0, [some (.inr (.inl (some 55))), some (.inr (.inl (some 2)))], [], (J, L, W), c, sl) Qr Qx :=
  t_X8_copies (p := 55) (q := 2) (by decide) (by decide) (by decide) hD (fun J' L' x l ok => hQ J' L' x l (h.keep (fun y a => x y (by omega)) (fun y a => l y (by omega)) (by rw [x 0 (by omega)])) (ok g B h.1))
theorem t_settleF {e : Int} (he : -5 ≤ e ∧ e ≤ -1) (hD : 3 ≤ D) (hc : 1 ≤ c) (hs : 6 ≤ sl) (hQ : ∀ n2, W.2.2.2.2 ≤ n2 → Qx (-1 - e).toNat (J, L, nw_top W n2)) : NW sc d_X11_settle D (0, [some (.inr (.inl (some 0))), some (.inl e)], [], (J, L, W), c, sl) Qr Qx := by
  refine b_X11_settle_0 hD hc hs ⟨fun z => ?_, fun z1 => ⟨fun z => ?_, fun z2 => ⟨fun z => ?_, fun z3 => ⟨fun z => ?_, fun z4 => ⟨fun z => ?_, fun z5 => by omega⟩⟩⟩⟩⟩
  · rw [z] at hQ; exact hQ
  · rw [z] at hQ; exact hQ
  · rw [z] at hQ; exact hQ
  · rw [z] at hQ; exact hQ
  · rw [z] at hQ; exact hQ
theorem t_settleS {y : Int} {g' : Int → Int} (hy : 0 ≤ y) (h : sp_cA J L W g' n G v S B) (o : sp_ok 55 J L g B) (hD : 3 ≤ D) (hc : 1 ≤ c) (hs : 6 ≤ sl) (hQ : ∀ J' L' (W' : nw_W), (∀ x, ¬ (103 ≤ x ∧ x ≤ 296) → J' x = J x) → (∀ x, ¬ (103 ≤ x ∧ x ≤ 296) → L' x = L x) → W'.1 = W.1 → W'.2.2 = W.2.2 → sp_cA J' L' W' g' (if n = 8 then 8 else n + 1) (sp_psh n G g) v S B → Qr (some (.inl y)) (J', L', W')) : NW sc d_X11_settle D (0, [some (.inr (.inl (some 0))), some (.inl y)], [], (J, L, W), c, sl) Qr Qx := by
  refine b_X11_settle_0 hD hc hs ⟨fun z => by omega, fun _ => ⟨fun z => by omega, fun _ => ⟨fun z => by omega, fun _ => ⟨fun z => by omega, fun _ => ⟨fun z => by omega, fun _ => ?_⟩⟩⟩⟩⟩
  refine t_X5_remember h.2.1.1 h.2.1.2.1 h.2.1.2.2 (by decide) (fun J1 L1 W1 x1 l1 w1 w2 hp e ok => b_X11_settle_87 (hQ J1 L1 W1 x1 l1 w1 w2 ?_))
  have n0 := h.2.1.2.2
  refine ⟨h.1.keep (fun x a b => x1 x (by omega)) (l1 2 (by omega)), ⟨hp, e, by split <;> omega, by split <;> omega⟩, fun k hk => ok B G g h.2.2.1 o k (by rw [e]; exact hk), by rw [x1 0 (by omega)]; exact h.2.2.2.1, fun z => (h.2.2.2.2 z).keep (fun x a b => x1 x (by omega)) (l1 79 (by omega))⟩
theorem sp_psh_ew {g g' : Int → Int} {k : Nat} (h : sp_ew g g') : sp_ew (sp_psh n G g k) (sp_psh n G g' k) := by
  intro s a b
  unfold sp_psh
  split
  · split
    · rfl
    · exact h s a b
  · split
    · rfl
    · exact h s a b
theorem sp_ew.trans {a b d : Int → Int} (h : sp_ew a b) (k : sp_ew b d) : sp_ew a d := fun s x y => (k s x y).trans (h s x y)
theorem t_X11_addCrater {x : Int} (h : sp_cA J L W g n G v S B) (hB : B + 200 ≤ 4000000) (hD : 4 ≤ D) (hc : 1 ≤ c) (hs : 6 ≤ sl)
    (hF : ∀ e r, sp_of 0 g x 0 0 0 e r → ∀ J' L', sp_jf J J' → sp_jf L L' → J' 1 0 = (if r = 0 then J 1 0 else r) → sp_cA J' L' W g n G v S B → ∀ n2, W.2.2.2.2 ≤ n2 → Qx (-1 - e).toNat (J', L', nw_top W n2))
    (hS : sp_oo 0 g x 0 0 0 → ∀ J' L' (W' : nw_W), sp_jf J J' → sp_jf L L' → W'.1 = W.1 → W'.2.2 = W.2.2 → J' 1 0 = J 1 0 → sp_cA J' L' W' (sp_og 0 g x 0 0 0) (if n = 8 then 8 else n + 1) (sp_psh n G g) v S (B + 200) → Qr (some (.inl (sp_ov 0 g x 0))) (J', L', W')) : NW sc d_X11_addCrater D (0, [some (.inr (.inl (some 0))), some (.inl x)], [], (J, L, W), c, sl) Qr Qx := by
  refine b_X11_addCrater_0 hD (t_before h (by decide) (fun J1 L1 x1 l1 c1 o1 => b_X11_addCrater_11 hD ?_))
  have F : ∀ e r, sp_of 0 g x 0 0 0 e r → NW sc d_X11_addCrater D (20, [none, none], .inl e :: [.inr (.inl (some 0))], (if r = 0 then J1 else nw_u J1 1 0 r, L1, W), c, sl) Qr Qx := fun e r hf => by
    have rg := op_rng hf
    have xr : ∀ x, ¬ x = 1 → (if r = 0 then J1 else nw_u J1 1 0 r) x = J1 x := fun x a => by
      split
      · rfl
      · exact nw_uP a
    refine b_X11_addCrater_20 hD hc hs (t_settleF ⟨rg.1, rg.2.1⟩ (by decide) (by decide) (by decide) (hF e r hf _ _ (fun x a => ?_) (fun x a => l1 x (by omega)) ?_ ?_))
    · rw [xr x (by omega)]; exact x1 x (by omega)
    · split
      · rw [x1 1 (by omega)]
      · exact nw_uS
    · exact c1.keep (fun x a => xr x (by omega)) (fun _ _ => rfl) (by rw [xr 0 (by decide)])
  refine t_c0 (sp_sh2.mp c1.1.1) c1.1.2.1 c1.1.2.2 hB (by decide) F (fun ho J2 L2 f2 l2 R2 => ?_)
  have iv := op_inv c1.1.2.1 c1.1.2.2 hB ho
  refine b_X11_addCrater_20 hD hc hs (t_settleS iv.2.2 (c1.op hB f2 l2 R2 ⟨iv.1, iv.2.1⟩) ((o1.keep (fun x a b => f2 x (by omega)) (l2 55 (by omega))).up (by omega) hB) (by decide) (by decide) (by decide) (fun J3 L3 W3 x3 l3 w1 w2 c3 => b_X11_addCrater_23 (hS ho J3 L3 W3 (fun x a => ?_) (fun x a => ?_) w1 w2 ?_ c3)))
  · rw [x3 x (by omega), f2 x (by omega), x1 x (by omega)]
  · rw [l3 x (by omega), l2 x (by omega), l1 x (by omega)]
  · rw [x3 1 (by omega), f2 1 (by omega), x1 1 (by omega)]
theorem t_X11_addChannel {x y z w : Int} (h : sp_cA J L W g n G v S B) (hB : B + 200 ≤ 4000000) (hD : 4 ≤ D) (hc : 1 ≤ c) (hs : 6 ≤ sl)
    (hF : ∀ e r, sp_of 1 g x y z w e r → ∀ J' L', sp_jf J J' → sp_jf L L' → J' 1 0 = (if r = 0 then J 1 0 else r) → sp_cA J' L' W g n G v S B → ∀ n2, W.2.2.2.2 ≤ n2 → Qx (-1 - e).toNat (J', L', nw_top W n2))
    (hS : sp_oo 1 g x y z w → ∀ J' L' (W' : nw_W), sp_jf J J' → sp_jf L L' → W'.1 = W.1 → W'.2.2 = W.2.2 → J' 1 0 = J 1 0 → sp_cA J' L' W' (sp_og 1 g x y z w) (if n = 8 then 8 else n + 1) (sp_psh n G g) v S (B + 200) → Qr (some (.inl (sp_ov 1 g x y))) (J', L', W')) : NW sc d_X11_addChannel D (0, [some (.inr (.inl (some 0))), some (.inl x), some (.inl y), some (.inl z), some (.inl w)], [], (J, L, W), c, sl) Qr Qx := by
  refine b_X11_addChannel_0 hD (t_before h (by decide) (fun J1 L1 x1 l1 c1 o1 => b_X11_addChannel_11 hD ?_))
  have F : ∀ e r, sp_of 1 g x y z w e r → NW sc d_X11_addChannel D (24, [none, none, none, none, none], .inl e :: [.inr (.inl (some 0))], (if r = 0 then J1 else nw_u J1 1 0 r, L1, W), c, sl) Qr Qx := fun e r hf => by
    have rg := op_rng hf
    have xr : ∀ x, ¬ x = 1 → (if r = 0 then J1 else nw_u J1 1 0 r) x = J1 x := fun x a => by
      split
      · rfl
      · exact nw_uP a
    refine b_X11_addChannel_24 hD hc hs (t_settleF ⟨rg.1, rg.2.1⟩ (by decide) (by decide) (by decide) (hF e r hf _ _ (fun x a => ?_) (fun x a => l1 x (by omega)) ?_ ?_))
    · rw [xr x (by omega)]; exact x1 x (by omega)
    · split
      · rw [x1 1 (by omega)]
      · exact nw_uS
    · exact c1.keep (fun x a => xr x (by omega)) (fun _ _ => rfl) (by rw [xr 0 (by decide)])
  refine t_c1 (sp_sh2.mp c1.1.1) c1.1.2.1 c1.1.2.2 hB (by decide) F (fun ho J2 L2 f2 l2 R2 => ?_)
  have iv := op_inv c1.1.2.1 c1.1.2.2 hB ho
  refine b_X11_addChannel_24 hD hc hs (t_settleS iv.2.2 (c1.op hB f2 l2 R2 ⟨iv.1, iv.2.1⟩) ((o1.keep (fun x a b => f2 x (by omega)) (l2 55 (by omega))).up (by omega) hB) (by decide) (by decide) (by decide) (fun J3 L3 W3 x3 l3 w1 w2 c3 => b_X11_addChannel_27 (hS ho J3 L3 W3 (fun x a => ?_) (fun x a => ?_) w1 w2 ?_ c3)))
  · rw [x3 x (by omega), f2 x (by omega), x1 x (by omega)]
  · rw [l3 x (by omega), l2 x (by omega), l1 x (by omega)]
  · rw [x3 1 (by omega), f2 1 (by omega), x1 1 (by omega)]
theorem t_X11_addFerry {x y z : Int} (h : sp_cA J L W g n G v S B) (hB : B + 200 ≤ 4000000) (hD : 4 ≤ D) (hc : 1 ≤ c) (hs : 6 ≤ sl)
    (hF : ∀ e r, sp_of 2 g x y z 0 e r → ∀ J' L', sp_jf J J' → sp_jf L L' → J' 1 0 = (if r = 0 then J 1 0 else r) → sp_cA J' L' W g n G v S B → ∀ n2, W.2.2.2.2 ≤ n2 → Qx (-1 - e).toNat (J', L', nw_top W n2))
    (hS : sp_oo 2 g x y z 0 → ∀ J' L' (W' : nw_W), sp_jf J J' → sp_jf L L' → W'.1 = W.1 → W'.2.2 = W.2.2 → J' 1 0 = J 1 0 → sp_cA J' L' W' (sp_og 2 g x y z 0) (if n = 8 then 8 else n + 1) (sp_psh n G g) v S (B + 200) → Qr (some (.inl (sp_ov 2 g x y))) (J', L', W')) : NW sc d_X11_addFerry D (0, [some (.inr (.inl (some 0))), some (.inl x), some (.inl y), some (.inl z)], [], (J, L, W), c, sl) Qr Qx := by
  refine b_X11_addFerry_0 hD (t_before h (by decide) (fun J1 L1 x1 l1 c1 o1 => b_X11_addFerry_11 hD ?_))
  have F : ∀ e r, sp_of 2 g x y z 0 e r → NW sc d_X11_addFerry D (22, [none, none, none, none], .inl e :: [.inr (.inl (some 0))], (if r = 0 then J1 else nw_u J1 1 0 r, L1, W), c, sl) Qr Qx := fun e r hf => by
    have rg := op_rng hf
    have xr : ∀ x, ¬ x = 1 → (if r = 0 then J1 else nw_u J1 1 0 r) x = J1 x := fun x a => by
      split
      · rfl
      · exact nw_uP a
    refine b_X11_addFerry_22 hD hc hs (t_settleF ⟨rg.1, rg.2.1⟩ (by decide) (by decide) (by decide) (hF e r hf _ _ (fun x a => ?_) (fun x a => l1 x (by omega)) ?_ ?_))
    · rw [xr x (by omega)]; exact x1 x (by omega)
    · split
      · rw [x1 1 (by omega)]
      · exact nw_uS
    · exact c1.keep (fun x a => xr x (by omega)) (fun _ _ => rfl) (by rw [xr 0 (by decide)])
  refine t_c2 (sp_sh2.mp c1.1.1) c1.1.2.1 c1.1.2.2 hB (by decide) F (fun ho J2 L2 f2 l2 R2 => ?_)
  have iv := op_inv c1.1.2.1 c1.1.2.2 hB ho
  refine b_X11_addFerry_22 hD hc hs (t_settleS iv.2.2 (c1.op hB f2 l2 R2 ⟨iv.1, iv.2.1⟩) ((o1.keep (fun x a b => f2 x (by omega)) (l2 55 (by omega))).up (by omega) hB) (by decide) (by decide) (by decide) (fun J3 L3 W3 x3 l3 w1 w2 c3 => b_X11_addFerry_25 (hS ho J3 L3 W3 (fun x a => ?_) (fun x a => ?_) w1 w2 ?_ c3)))
  · rw [x3 x (by omega), f2 x (by omega), x1 x (by omega)]
  · rw [l3 x (by omega), l2 x (by omega), l1 x (by omega)]
  · rw [x3 1 (by omega), f2 1 (by omega), x1 1 (by omega)]
theorem t_X11_addMoon {x y z w : Int} (h : sp_cA J L W g n G v S B) (hB : B + 200 ≤ 4000000) (hD : 4 ≤ D) (hc : 1 ≤ c) (hs : 6 ≤ sl)
    (hF : ∀ e r, sp_of 3 g x y z w e r → ∀ J' L', sp_jf J J' → sp_jf L L' → J' 1 0 = (if r = 0 then J 1 0 else r) → sp_cA J' L' W g n G v S B → ∀ n2, W.2.2.2.2 ≤ n2 → Qx (-1 - e).toNat (J', L', nw_top W n2))
    (hS : sp_oo 3 g x y z w → ∀ J' L' (W' : nw_W), sp_jf J J' → sp_jf L L' → W'.1 = W.1 → W'.2.2 = W.2.2 → J' 1 0 = J 1 0 → sp_cA J' L' W' (sp_og 3 g x y z w) (if n = 8 then 8 else n + 1) (sp_psh n G g) v S (B + 200) → Qr (some (.inl (sp_ov 3 g x y))) (J', L', W')) : NW sc d_X11_addMoon D (0, [some (.inr (.inl (some 0))), some (.inl x), some (.inl y), some (.inl z), some (.inl w)], [], (J, L, W), c, sl) Qr Qx := by
  refine b_X11_addMoon_0 hD (t_before h (by decide) (fun J1 L1 x1 l1 c1 o1 => b_X11_addMoon_11 hD ?_))
  have F : ∀ e r, sp_of 3 g x y z w e r → NW sc d_X11_addMoon D (24, [none, none, none, none, none], .inl e :: [.inr (.inl (some 0))], (if r = 0 then J1 else nw_u J1 1 0 r, L1, W), c, sl) Qr Qx := fun e r hf => by
    have rg := op_rng hf
    have xr : ∀ x, ¬ x = 1 → (if r = 0 then J1 else nw_u J1 1 0 r) x = J1 x := fun x a => by
      split
      · rfl
      · exact nw_uP a
    refine b_X11_addMoon_24 hD hc hs (t_settleF ⟨rg.1, rg.2.1⟩ (by decide) (by decide) (by decide) (hF e r hf _ _ (fun x a => ?_) (fun x a => l1 x (by omega)) ?_ ?_))
    · rw [xr x (by omega)]; exact x1 x (by omega)
    · split
      · rw [x1 1 (by omega)]
      · exact nw_uS
    · exact c1.keep (fun x a => xr x (by omega)) (fun _ _ => rfl) (by rw [xr 0 (by decide)])
  refine t_c3 (sp_sh2.mp c1.1.1) c1.1.2.1 c1.1.2.2 hB (by decide) F (fun ho J2 L2 f2 l2 R2 => ?_)
  have iv := op_inv c1.1.2.1 c1.1.2.2 hB ho
  refine b_X11_addMoon_24 hD hc hs (t_settleS iv.2.2 (c1.op hB f2 l2 R2 ⟨iv.1, iv.2.1⟩) ((o1.keep (fun x a b => f2 x (by omega)) (l2 55 (by omega))).up (by omega) hB) (by decide) (by decide) (by decide) (fun J3 L3 W3 x3 l3 w1 w2 c3 => b_X11_addMoon_27 (hS ho J3 L3 W3 (fun x a => ?_) (fun x a => ?_) w1 w2 ?_ c3)))
  · rw [x3 x (by omega), f2 x (by omega), x1 x (by omega)]
  · rw [l3 x (by omega), l2 x (by omega), l1 x (by omega)]
  · rw [x3 1 (by omega), f2 1 (by omega), x1 1 (by omega)]
theorem t_X11_sail {x y : Int} (h : sp_cA J L W g n G v S B) (hB : B + 200 ≤ 4000000) (hD : 4 ≤ D) (hc : 1 ≤ c) (hs : 6 ≤ sl)
    (hF : ∀ e r, sp_of 4 g x y 0 0 e r → ∀ J' L', sp_jf J J' → sp_jf L L' → J' 1 0 = (if r = 0 then J 1 0 else r) → sp_cA J' L' W g n G v S B → ∀ n2, W.2.2.2.2 ≤ n2 → Qx (-1 - e).toNat (J', L', nw_top W n2))
    (hS : sp_oo 4 g x y 0 0 → ∀ J' L' (W' : nw_W), sp_jf J J' → sp_jf L L' → W'.1 = W.1 → W'.2.2 = W.2.2 → J' 1 0 = J 1 0 → sp_cA J' L' W' (sp_og 4 g x y 0 0) (if n = 8 then 8 else n + 1) (sp_psh n G g) v S (B + 200) → Qr (some (.inl (sp_ov 4 g x y))) (J', L', W')) : NW sc d_X11_sail D (0, [some (.inr (.inl (some 0))), some (.inl x), some (.inl y)], [], (J, L, W), c, sl) Qr Qx := by
  refine b_X11_sail_0 hD (t_before h (by decide) (fun J1 L1 x1 l1 c1 o1 => b_X11_sail_11 hD ?_))
  have F : ∀ e r, sp_of 4 g x y 0 0 e r → NW sc d_X11_sail D (21, [none, none, none], .inl e :: [.inr (.inl (some 0))], (if r = 0 then J1 else nw_u J1 1 0 r, L1, W), c, sl) Qr Qx := fun e r hf => by
    have rg := op_rng hf
    have xr : ∀ x, ¬ x = 1 → (if r = 0 then J1 else nw_u J1 1 0 r) x = J1 x := fun x a => by
      split
      · rfl
      · exact nw_uP a
    refine b_X11_sail_21 hD hc hs (t_settleF ⟨rg.1, rg.2.1⟩ (by decide) (by decide) (by decide) (hF e r hf _ _ (fun x a => ?_) (fun x a => l1 x (by omega)) ?_ ?_))
    · rw [xr x (by omega)]; exact x1 x (by omega)
    · split
      · rw [x1 1 (by omega)]
      · exact nw_uS
    · exact c1.keep (fun x a => xr x (by omega)) (fun _ _ => rfl) (by rw [xr 0 (by decide)])
  refine t_c4 (sp_sh2.mp c1.1.1) c1.1.2.1 c1.1.2.2 hB (by decide) F (fun ho J2 L2 f2 l2 R2 => ?_)
  have iv := op_inv c1.1.2.1 c1.1.2.2 hB ho
  refine b_X11_sail_21 hD hc hs (t_settleS iv.2.2 (c1.op hB f2 l2 R2 ⟨iv.1, iv.2.1⟩) ((o1.keep (fun x a b => f2 x (by omega)) (l2 55 (by omega))).up (by omega) hB) (by decide) (by decide) (by decide) (fun J3 L3 W3 x3 l3 w1 w2 c3 => b_X11_sail_24 (hS ho J3 L3 W3 (fun x a => ?_) (fun x a => ?_) w1 w2 ?_ c3)))
  · rw [x3 x (by omega), f2 x (by omega), x1 x (by omega)]
  · rw [l3 x (by omega), l2 x (by omega), l1 x (by omega)]
  · rw [x3 1 (by omega), f2 1 (by omega), x1 1 (by omega)]
theorem t_X11_board {x y : Int} (h : sp_cA J L W g n G v S B) (hB : B + 200 ≤ 4000000) (hD : 4 ≤ D) (hc : 1 ≤ c) (hs : 6 ≤ sl)
    (hF : ∀ e r, sp_of 5 g x y 0 0 e r → ∀ J' L', sp_jf J J' → sp_jf L L' → J' 1 0 = (if r = 0 then J 1 0 else r) → sp_cA J' L' W g n G v S B → ∀ n2, W.2.2.2.2 ≤ n2 → Qx (-1 - e).toNat (J', L', nw_top W n2))
    (hS : sp_oo 5 g x y 0 0 → ∀ J' L' (W' : nw_W), sp_jf J J' → sp_jf L L' → W'.1 = W.1 → W'.2.2 = W.2.2 → J' 1 0 = J 1 0 → sp_cA J' L' W' (sp_og 5 g x y 0 0) (if n = 8 then 8 else n + 1) (sp_psh n G g) v S (B + 200) → Qr (some (.inl (sp_ov 5 g x y))) (J', L', W')) : NW sc d_X11_board D (0, [some (.inr (.inl (some 0))), some (.inl x), some (.inl y)], [], (J, L, W), c, sl) Qr Qx := by
  refine b_X11_board_0 hD (t_before h (by decide) (fun J1 L1 x1 l1 c1 o1 => b_X11_board_11 hD ?_))
  have F : ∀ e r, sp_of 5 g x y 0 0 e r → NW sc d_X11_board D (21, [none, none, none], .inl e :: [.inr (.inl (some 0))], (if r = 0 then J1 else nw_u J1 1 0 r, L1, W), c, sl) Qr Qx := fun e r hf => by
    have rg := op_rng hf
    have xr : ∀ x, ¬ x = 1 → (if r = 0 then J1 else nw_u J1 1 0 r) x = J1 x := fun x a => by
      split
      · rfl
      · exact nw_uP a
    refine b_X11_board_21 hD hc hs (t_settleF ⟨rg.1, rg.2.1⟩ (by decide) (by decide) (by decide) (hF e r hf _ _ (fun x a => ?_) (fun x a => l1 x (by omega)) ?_ ?_))
    · rw [xr x (by omega)]; exact x1 x (by omega)
    · split
      · rw [x1 1 (by omega)]
      · exact nw_uS
    · exact c1.keep (fun x a => xr x (by omega)) (fun _ _ => rfl) (by rw [xr 0 (by decide)])
  refine t_c5 (sp_sh2.mp c1.1.1) c1.1.2.1 c1.1.2.2 hB (by decide) F (fun ho J2 L2 f2 l2 R2 => ?_)
  have iv := op_inv c1.1.2.1 c1.1.2.2 hB ho
  refine b_X11_board_21 hD hc hs (t_settleS iv.2.2 (c1.op hB f2 l2 R2 ⟨iv.1, iv.2.1⟩) ((o1.keep (fun x a b => f2 x (by omega)) (l2 55 (by omega))).up (by omega) hB) (by decide) (by decide) (by decide) (fun J3 L3 W3 x3 l3 w1 w2 c3 => b_X11_board_24 (hS ho J3 L3 W3 (fun x a => ?_) (fun x a => ?_) w1 w2 ?_ c3)))
  · rw [x3 x (by omega), f2 x (by omega), x1 x (by omega)]
  · rw [l3 x (by omega), l2 x (by omega), l1 x (by omega)]
  · rw [x3 1 (by omega), f2 1 (by omega), x1 1 (by omega)]
theorem t_X11_land {x : Int} (h : sp_cA J L W g n G v S B) (hB : B + 200 ≤ 4000000) (hD : 4 ≤ D) (hc : 1 ≤ c) (hs : 6 ≤ sl)
    (hF : ∀ e r, sp_of 6 g x 0 0 0 e r → ∀ J' L', sp_jf J J' → sp_jf L L' → J' 1 0 = (if r = 0 then J 1 0 else r) → sp_cA J' L' W g n G v S B → ∀ n2, W.2.2.2.2 ≤ n2 → Qx (-1 - e).toNat (J', L', nw_top W n2))
    (hS : sp_oo 6 g x 0 0 0 → ∀ J' L' (W' : nw_W), sp_jf J J' → sp_jf L L' → W'.1 = W.1 → W'.2.2 = W.2.2 → J' 1 0 = J 1 0 → sp_cA J' L' W' (sp_og 6 g x 0 0 0) (if n = 8 then 8 else n + 1) (sp_psh n G g) v S (B + 200) → Qr (some (.inl (sp_ov 6 g x 0))) (J', L', W')) : NW sc d_X11_land D (0, [some (.inr (.inl (some 0))), some (.inl x)], [], (J, L, W), c, sl) Qr Qx := by
  refine b_X11_land_0 hD (t_before h (by decide) (fun J1 L1 x1 l1 c1 o1 => b_X11_land_11 hD ?_))
  have F : ∀ e r, sp_of 6 g x 0 0 0 e r → NW sc d_X11_land D (20, [none, none], .inl e :: [.inr (.inl (some 0))], (if r = 0 then J1 else nw_u J1 1 0 r, L1, W), c, sl) Qr Qx := fun e r hf => by
    have rg := op_rng hf
    have xr : ∀ x, ¬ x = 1 → (if r = 0 then J1 else nw_u J1 1 0 r) x = J1 x := fun x a => by
      split
      · rfl
      · exact nw_uP a
    refine b_X11_land_20 hD hc hs (t_settleF ⟨rg.1, rg.2.1⟩ (by decide) (by decide) (by decide) (hF e r hf _ _ (fun x a => ?_) (fun x a => l1 x (by omega)) ?_ ?_))
    · rw [xr x (by omega)]; exact x1 x (by omega)
    · split
      · rw [x1 1 (by omega)]
      · exact nw_uS
    · exact c1.keep (fun x a => xr x (by omega)) (fun _ _ => rfl) (by rw [xr 0 (by decide)])
  refine t_c6 (sp_sh2.mp c1.1.1) c1.1.2.1 c1.1.2.2 hB (by decide) F (fun ho J2 L2 f2 l2 R2 => ?_)
  have iv := op_inv c1.1.2.1 c1.1.2.2 hB ho
  refine b_X11_land_20 hD hc hs (t_settleS iv.2.2 (c1.op hB f2 l2 R2 ⟨iv.1, iv.2.1⟩) ((o1.keep (fun x a b => f2 x (by omega)) (l2 55 (by omega))).up (by omega) hB) (by decide) (by decide) (by decide) (fun J3 L3 W3 x3 l3 w1 w2 c3 => b_X11_land_23 (hS ho J3 L3 W3 (fun x a => ?_) (fun x a => ?_) w1 w2 ?_ c3)))
  · rw [x3 x (by omega), f2 x (by omega), x1 x (by omega)]
  · rw [l3 x (by omega), l2 x (by omega), l1 x (by omega)]
  · rw [x3 1 (by omega), f2 1 (by omega), x1 1 (by omega)]
theorem t_X11_loadBest {x : Int} (h : sp_cA J L W g n G v S B) (hB : B + 200 ≤ 4000000) (hD : 15 ≤ D) (hc : 1 ≤ c) (hs : 6 ≤ sl)
    (hF : ∀ e r, sp_of 7 g x 0 0 0 e r → ∀ J' L', sp_jf J J' → sp_jf L L' → J' 1 0 = (if r = 0 then J 1 0 else r) → sp_cA J' L' W g n G v S B → ∀ n2, W.2.2.2.2 ≤ n2 → Qx (-1 - e).toNat (J', L', nw_top W n2))
    (hS : sp_oo 7 g x 0 0 0 → ∀ J' L' (W' : nw_W), sp_jf J J' → sp_jf L L' → W'.1 = W.1 → W'.2.2 = W.2.2 → J' 1 0 = J 1 0 → sp_cA J' L' W' (sp_og 7 g x 0 0 0) (if n = 8 then 8 else n + 1) (sp_psh n G g) v S (B + 200) → Qr (some (.inl (sp_ov 7 g x 0))) (J', L', W')) : NW sc d_X11_loadBest D (0, [some (.inr (.inl (some 0))), some (.inl x)], [], (J, L, W), c, sl) Qr Qx := by
  refine b_X11_loadBest_0 hD (t_before h (by decide) (fun J1 L1 x1 l1 c1 o1 => b_X11_loadBest_11 hD ?_))
  have F : ∀ e r, sp_of 7 g x 0 0 0 e r → NW sc d_X11_loadBest D (20, [none, none], .inl e :: [.inr (.inl (some 0))], (if r = 0 then J1 else nw_u J1 1 0 r, L1, W), c, sl) Qr Qx := fun e r hf => by
    have rg := op_rng hf
    have xr : ∀ x, ¬ x = 1 → (if r = 0 then J1 else nw_u J1 1 0 r) x = J1 x := fun x a => by
      split
      · rfl
      · exact nw_uP a
    refine b_X11_loadBest_20 hD hc hs (t_settleF ⟨rg.1, rg.2.1⟩ (by decide) (by decide) (by decide) (hF e r hf _ _ (fun x a => ?_) (fun x a => l1 x (by omega)) ?_ ?_))
    · rw [xr x (by omega)]; exact x1 x (by omega)
    · split
      · rw [x1 1 (by omega)]
      · exact nw_uS
    · exact c1.keep (fun x a => xr x (by omega)) (fun _ _ => rfl) (by rw [xr 0 (by decide)])
  refine t_c7 (sp_sh2.mp c1.1.1) c1.1.2.1 c1.1.2.2 hB (by decide) F (fun ho J2 L2 f2 l2 R2 => ?_)
  have iv := op_inv c1.1.2.1 c1.1.2.2 hB ho
  refine b_X11_loadBest_20 hD hc hs (t_settleS iv.2.2 (c1.op hB f2 l2 R2 ⟨iv.1, iv.2.1⟩) ((o1.keep (fun x a b => f2 x (by omega)) (l2 55 (by omega))).up (by omega) hB) (by decide) (by decide) (by decide) (fun J3 L3 W3 x3 l3 w1 w2 c3 => b_X11_loadBest_23 (hS ho J3 L3 W3 (fun x a => ?_) (fun x a => ?_) w1 w2 ?_ c3)))
  · rw [x3 x (by omega), f2 x (by omega), x1 x (by omega)]
  · rw [l3 x (by omega), l2 x (by omega), l1 x (by omega)]
  · rw [x3 1 (by omega), f2 1 (by omega), x1 1 (by omega)]
theorem t_X11_rescue {x : Int} (h : sp_cA J L W g n G v S B) (hB : B + 200 ≤ 4000000) (hD : 4 ≤ D) (hc : 1 ≤ c) (hs : 6 ≤ sl)
    (hF : ∀ e r, sp_of 8 g x 0 0 0 e r → ∀ J' L', sp_jf J J' → sp_jf L L' → J' 1 0 = (if r = 0 then J 1 0 else r) → sp_cA J' L' W g n G v S B → ∀ n2, W.2.2.2.2 ≤ n2 → Qx (-1 - e).toNat (J', L', nw_top W n2))
    (hS : sp_oo 8 g x 0 0 0 → ∀ J' L' (W' : nw_W), sp_jf J J' → sp_jf L L' → W'.1 = W.1 → W'.2.2 = W.2.2 → J' 1 0 = J 1 0 → sp_cA J' L' W' (sp_og 8 g x 0 0 0) (if n = 8 then 8 else n + 1) (sp_psh n G g) v S (B + 200) → Qr (some (.inl (sp_ov 8 g x 0))) (J', L', W')) : NW sc d_X11_rescue D (0, [some (.inr (.inl (some 0))), some (.inl x)], [], (J, L, W), c, sl) Qr Qx := by
  refine b_X11_rescue_0 hD (t_before h (by decide) (fun J1 L1 x1 l1 c1 o1 => b_X11_rescue_11 hD ?_))
  have F : ∀ e r, sp_of 8 g x 0 0 0 e r → NW sc d_X11_rescue D (20, [none, none], .inl e :: [.inr (.inl (some 0))], (if r = 0 then J1 else nw_u J1 1 0 r, L1, W), c, sl) Qr Qx := fun e r hf => by
    have rg := op_rng hf
    have xr : ∀ x, ¬ x = 1 → (if r = 0 then J1 else nw_u J1 1 0 r) x = J1 x := fun x a => by
      split
      · rfl
      · exact nw_uP a
    refine b_X11_rescue_20 hD hc hs (t_settleF ⟨rg.1, rg.2.1⟩ (by decide) (by decide) (by decide) (hF e r hf _ _ (fun x a => ?_) (fun x a => l1 x (by omega)) ?_ ?_))
    · rw [xr x (by omega)]; exact x1 x (by omega)
    · split
      · rw [x1 1 (by omega)]
      · exact nw_uS
    · exact c1.keep (fun x a => xr x (by omega)) (fun _ _ => rfl) (by rw [xr 0 (by decide)])
  refine t_c8 (sp_sh2.mp c1.1.1) c1.1.2.1 c1.1.2.2 hB (by decide) F (fun ho J2 L2 f2 l2 R2 => ?_)
  have iv := op_inv c1.1.2.1 c1.1.2.2 hB ho
  refine b_X11_rescue_20 hD hc hs (t_settleS iv.2.2 (c1.op hB f2 l2 R2 ⟨iv.1, iv.2.1⟩) ((o1.keep (fun x a b => f2 x (by omega)) (l2 55 (by omega))).up (by omega) hB) (by decide) (by decide) (by decide) (fun J3 L3 W3 x3 l3 w1 w2 c3 => b_X11_rescue_23 (hS ho J3 L3 W3 (fun x a => ?_) (fun x a => ?_) w1 w2 ?_ c3)))
  · rw [x3 x (by omega), f2 x (by omega), x1 x (by omega)]
  · rw [l3 x (by omega), l2 x (by omega), l1 x (by omega)]
  · rw [x3 1 (by omega), f2 1 (by omega), x1 1 (by omega)]
theorem t_X11_pass {x : Int} (h : sp_cA J L W g n G v S B) (hB : B + 200 ≤ 4000000) (hD : 5 ≤ D) (hc : 1 ≤ c) (hs : 6 ≤ sl)
    (hF : ∀ e r, sp_of 9 g x 0 0 0 e r → ∀ J' L', sp_jf J J' → sp_jf L L' → J' 1 0 = (if r = 0 then J 1 0 else r) → sp_cA J' L' W g n G v S B → ∀ n2, W.2.2.2.2 ≤ n2 → Qx (-1 - e).toNat (J', L', nw_top W n2))
    (hS : sp_oo 9 g x 0 0 0 → ∀ J' L' (W' : nw_W), sp_jf J J' → sp_jf L L' → W'.1 = W.1 → W'.2.2 = W.2.2 → J' 1 0 = J 1 0 → sp_cA J' L' W' (sp_og 9 g x 0 0 0) (if n = 8 then 8 else n + 1) (sp_psh n G g) v S (B + 200) → Qr (some (.inl (sp_ov 9 g x 0))) (J', L', W')) : NW sc d_X11_pass D (0, [some (.inr (.inl (some 0))), some (.inl x)], [], (J, L, W), c, sl) Qr Qx := by
  refine b_X11_pass_0 hD (t_before h (by decide) (fun J1 L1 x1 l1 c1 o1 => b_X11_pass_11 hD ?_))
  have F : ∀ e r, sp_of 9 g x 0 0 0 e r → NW sc d_X11_pass D (20, [none, none], .inl e :: [.inr (.inl (some 0))], (if r = 0 then J1 else nw_u J1 1 0 r, L1, W), c, sl) Qr Qx := fun e r hf => by
    have rg := op_rng hf
    have xr : ∀ x, ¬ x = 1 → (if r = 0 then J1 else nw_u J1 1 0 r) x = J1 x := fun x a => by
      split
      · rfl
      · exact nw_uP a
    refine b_X11_pass_20 hD hc hs (t_settleF ⟨rg.1, rg.2.1⟩ (by decide) (by decide) (by decide) (hF e r hf _ _ (fun x a => ?_) (fun x a => l1 x (by omega)) ?_ ?_))
    · rw [xr x (by omega)]; exact x1 x (by omega)
    · split
      · rw [x1 1 (by omega)]
      · exact nw_uS
    · exact c1.keep (fun x a => xr x (by omega)) (fun _ _ => rfl) (by rw [xr 0 (by decide)])
  refine t_c9 (sp_sh2.mp c1.1.1) c1.1.2.1 c1.1.2.2 hB (by decide) F (fun ho J2 L2 f2 l2 R2 => ?_)
  have iv := op_inv c1.1.2.1 c1.1.2.2 hB ho
  refine b_X11_pass_20 hD hc hs (t_settleS iv.2.2 (c1.op hB f2 l2 R2 ⟨iv.1, iv.2.1⟩) ((o1.keep (fun x a b => f2 x (by omega)) (l2 55 (by omega))).up (by omega) hB) (by decide) (by decide) (by decide) (fun J3 L3 W3 x3 l3 w1 w2 c3 => b_X11_pass_23 (hS ho J3 L3 W3 (fun x a => ?_) (fun x a => ?_) w1 w2 ?_ c3)))
  · rw [x3 x (by omega), f2 x (by omega), x1 x (by omega)]
  · rw [l3 x (by omega), l2 x (by omega), l1 x (by omega)]
  · rw [x3 1 (by omega), f2 1 (by omega), x1 1 (by omega)]
theorem t_X11_removeChannel {x : Int} (h : sp_cA J L W g n G v S B) (hB : B + 200 ≤ 4000000) (hD : 4 ≤ D) (hc : 1 ≤ c) (hs : 6 ≤ sl)
    (hF : ∀ e r, sp_of 10 g x 0 0 0 e r → ∀ J' L', sp_jf J J' → sp_jf L L' → J' 1 0 = (if r = 0 then J 1 0 else r) → sp_cA J' L' W g n G v S B → ∀ n2, W.2.2.2.2 ≤ n2 → Qx (-1 - e).toNat (J', L', nw_top W n2))
    (hS : sp_oo 10 g x 0 0 0 → ∀ J' L' (W' : nw_W), sp_jf J J' → sp_jf L L' → W'.1 = W.1 → W'.2.2 = W.2.2 → J' 1 0 = J 1 0 → sp_cA J' L' W' (sp_og 10 g x 0 0 0) (if n = 8 then 8 else n + 1) (sp_psh n G g) v S (B + 200) → Qr (some (.inl (sp_ov 10 g x 0))) (J', L', W')) : NW sc d_X11_removeChannel D (0, [some (.inr (.inl (some 0))), some (.inl x)], [], (J, L, W), c, sl) Qr Qx := by
  refine b_X11_removeChannel_0 hD (t_before h (by decide) (fun J1 L1 x1 l1 c1 o1 => b_X11_removeChannel_11 hD ?_))
  have F : ∀ e r, sp_of 10 g x 0 0 0 e r → NW sc d_X11_removeChannel D (20, [none, none], .inl e :: [.inr (.inl (some 0))], (if r = 0 then J1 else nw_u J1 1 0 r, L1, W), c, sl) Qr Qx := fun e r hf => by
    have rg := op_rng hf
    have xr : ∀ x, ¬ x = 1 → (if r = 0 then J1 else nw_u J1 1 0 r) x = J1 x := fun x a => by
      split
      · rfl
      · exact nw_uP a
    refine b_X11_removeChannel_20 hD hc hs (t_settleF ⟨rg.1, rg.2.1⟩ (by decide) (by decide) (by decide) (hF e r hf _ _ (fun x a => ?_) (fun x a => l1 x (by omega)) ?_ ?_))
    · rw [xr x (by omega)]; exact x1 x (by omega)
    · split
      · rw [x1 1 (by omega)]
      · exact nw_uS
    · exact c1.keep (fun x a => xr x (by omega)) (fun _ _ => rfl) (by rw [xr 0 (by decide)])
  refine t_c10 (sp_sh2.mp c1.1.1) c1.1.2.1 c1.1.2.2 hB (by decide) F (fun ho J2 L2 f2 l2 R2 => ?_)
  have iv := op_inv c1.1.2.1 c1.1.2.2 hB ho
  refine b_X11_removeChannel_20 hD hc hs (t_settleS iv.2.2 (c1.op hB f2 l2 R2 ⟨iv.1, iv.2.1⟩) ((o1.keep (fun x a b => f2 x (by omega)) (l2 55 (by omega))).up (by omega) hB) (by decide) (by decide) (by decide) (fun J3 L3 W3 x3 l3 w1 w2 c3 => b_X11_removeChannel_23 (hS ho J3 L3 W3 (fun x a => ?_) (fun x a => ?_) w1 w2 ?_ c3)))
  · rw [x3 x (by omega), f2 x (by omega), x1 x (by omega)]
  · rw [l3 x (by omega), l2 x (by omega), l1 x (by omega)]
  · rw [x3 1 (by omega), f2 1 (by omega), x1 1 (by omega)]
end
end

