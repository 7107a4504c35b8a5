/-! the whole world, and how it is kept -/
section
variable {sc : Nat × (Nat → Int32)} {D : Nat} {J L : Nat → Int → Int} {W : nw_W} {c sl : Nat} {Qr : nw_QR} {Qx : nw_QX} {g : Int → Int} {B : Int}
theorem sp_cA.to {J L : Nat → Int → Int} {W : nw_W} {g g' : Int → Int} {n n' v v' B B' : Int} {G G' : Nat → Int → Int} {S S' : Int → Int} (h : sp_cA J L W g n G v S B) (hB : B ≤ B' ∧ B' ≤ 4000000) (eg : sp_ew g g') (en : n' = n) (eG : ∀ k : Nat, (k : Int) < n → sp_ew (G k) (G' k)) (ev : v' = v) (eS : sp_ew S S') : sp_cA J L W g' n' G' v' S' B' := by
  subst en
  subst ev
  exact ⟨(h.1.ew eg).up hB.1 hB.2, h.2.1, fun k hk => ((h.2.2.1 k hk).ew (eG k hk)).up hB.1 hB.2, h.2.2.2.1, fun z => ((h.2.2.2.2 z).ew eS).up hB.1 hB.2⟩
theorem sp_ew.refl {g : Int → Int} : sp_ew g g := fun _ _ _ => rfl
theorem sp_ew.of {g g' : Int → Int} (h : g' = g) : sp_ew g g' := fun s _ _ => by rw [h]
def sp_wR (J : Nat → Int → Int) : Prop := (J 303 10 = 0 ∧ J 1 0 = -1) ∨ (1 ≤ J 303 10 ∧ J 1 0 = J 303 10)
def sp_wE (J : Nat → Int → Int) : Prop := J 0 11 = J 303 8 ∧ J 0 12 = J 303 9
def sp_wT (J : Nat → Int → Int) : Prop := J 297 0 = J 303 7 ∧ 0 ≤ J 303 7 ∧ J 303 7 ≤ 60 ∧ J 299 = J 308
def sp_wS (J : Nat → Int → Int) (W : nw_W) : Prop := ∃ (n : Int) (l : Int → Int) (m : Nat), sp_sb J W n l m ∧ J 303 12 = n ∧ n ≤ 80 ∧ ∀ k, 0 ≤ k → k < n → J 309 k = l k ∧ 0 ≤ l k ∧ l k < 128
def sp_Wd (J L : Nat → Int → Int) (W : nw_W) (B : Int) : Prop := sp_cA J L W (J 304) (J 303 3) (sp_hw (J 306)) (J 303 5) (J 307) B ∧ sp_wR J ∧ sp_wE J ∧ sp_wT J ∧ sp_wS J W
def sp_wW (W W' : nw_W) : Prop := W'.2.2.1 = W.2.2.1 ∧ W'.2.2.2.1 = W.2.2.2.1 ∧ W.2.2.2.2 ≤ W'.2.2.2.2
theorem sp_wW.top {W : nw_W} {n : Nat} (h : W.2.2.2.2 ≤ n) : sp_wW W (nw_top W n) := ⟨rfl, rfl, h⟩
theorem sp_wW.refl {W : nw_W} : sp_wW W W := ⟨rfl, rfl, Nat.le_refl _⟩
theorem sp_wS.keep {J J' : Nat → Int → Int} {W W' : nw_W} (h : sp_wS J W) (e : ∀ x, (x = 301 ∨ x = 302 ∨ x = 309 ∨ 316 ≤ x) → J' x = J x) (e12 : J' 303 12 = J 303 12) (ew : sp_wW W W') : sp_wS J' W' := by
  obtain ⟨n, l, m, ⟨⟨a1, a3, a0, am⟩, amm, ⟨av, avn⟩, an3, ak, al, ab⟩, hn, hb, hl⟩ := h
  have eV : J' W.2.2.1 = J W.2.2.1 := e _ (by omega)
  have hk : nw_K (J', J', W') W'.2.2.1 (24, m) := by
    refine ⟨by rw [ew.1]; exact ak.1, ?_⟩
    show (if W'.2.2.1 < 316 then mw_kd0 W'.2.2.1 else W'.2.2.2.1 W'.2.2.1) = _
    rw [ew.1, ew.2.1]
    exact ak.2
  refine ⟨n, l, m, ⟨⟨by rw [e 301 (Or.inl rfl)]; exact a1, by rw [e 301 (Or.inl rfl)]; exact a3, a0, am⟩, amm, ⟨by rw [ew.1]; exact av, by rw [ew.1]; have := ew.2.2; omega⟩, by have := ew.2.2; omega, hk, fun k k0 k1 => by rw [ew.1, eV]; exact al k k0 k1, fun k k0 k1 => by rw [ew.1, eV]; exact ab k k0 k1⟩, e12.trans hn, hb, fun k k0 k1 => by rw [e 309 (by omega)]; exact hl k k0 k1⟩
theorem sp_hp.w {W W' : nw_W} (h : sp_hp W) (e : W'.2.1 = W.2.1) : sp_hp W' := by
  unfold sp_hp at h ⊢
  rw [e]
  exact h
theorem sp_cA.w {J L : Nat → Int → Int} {W W' : nw_W} {g : Int → Int} {n v B : Int} {G : Nat → Int → Int} {S : Int → Int} (h : sp_cA J L W g n G v S B) (e : W'.2.1 = W.2.1) : sp_cA J L W' g n G v S B :=
  ⟨h.1, ⟨h.2.1.1.w e, h.2.1.2⟩, fun k hk => by rw [e]; exact h.2.2.1 k hk, h.2.2.2⟩
/-- a question changes nothing -/
theorem sp_Wd.q {J J' L L' : Nat → Int → Int} {W W' : nw_W} {B B' : Int} (h : sp_Wd J L W B) (hB : B ≤ B' ∧ B' ≤ 4000000) (e : ∀ x, ¬ ((26 ≤ x ∧ x ≤ 54) ∨ x = 303 ∨ (310 ≤ x ∧ x ≤ 312)) → J' x = J x) (e3 : ∀ k, ¬ k = 13 → J' 303 k = J 303 k) (el : ∀ x, ¬ x = 314 → L' x = L x) (e1 : W'.2.1 = W.2.1) (ew : sp_wW W W') : sp_Wd J' L' W' B' := by
  obtain ⟨hA, hR, hE, hT, hS⟩ := h
  refine ⟨?_, ?_, ?_, ?_, ?_⟩
  · refine ((hA.w e1).keep (J' := J') (L' := L') (fun x a => e x (by omega)) (fun x a => el x (by omega)) (by rw [e 0 (by omega)])).to hB (sp_ew.of (e 304 (by omega))) (e3 3 (by decide)) (fun k hk => by rw [e 306 (by omega)]; exact sp_ew.refl) (e3 5 (by decide)) (sp_ew.of (e 307 (by omega)))
  · unfold sp_wR at hR ⊢
    rw [e3 10 (by decide), e 1 (by omega)]
    exact hR
  · unfold sp_wE at hE ⊢
    rw [e3 8 (by decide), e3 9 (by decide), e 0 (by omega)]
    exact hE
  · unfold sp_wT at hT ⊢
    rw [e3 7 (by decide), e 297 (by omega), e 299 (by omega), e 308 (by omega)]
    exact hT
  · exact hS.keep (fun x a => e x (by omega)) (e3 12 (by decide)) ew
/-- a change that fails -/
theorem sp_Wd.fail {J J1 J2 L L1 : Nat → Int → Int} {W : nw_W} {B r : Int} {n2 : Nat} (h : sp_Wd J L W B) (hB : B + 2200 ≤ 4000000) (hr : 0 ≤ r) (j1 : sp_jf J J1) (r1 : J1 1 0 = (if r = 0 then J 1 0 else r)) (c1 : sp_cA J1 L1 W (J 304) (J 303 3) (sp_hw (J 306)) (J 303 5) (J 307) B) (x2 : ∀ x, ¬ (x = 303 ∨ x = 304 ∨ x = 305 ∨ x = 310) → J2 x = J1 x) (k2 : ∀ k, ¬ (k = 10 ∨ k = 13) → J2 303 k = J1 303 k) (t10 : J2 303 10 = (if r = 0 then J1 303 10 else r)) (ew : sp_ew (J 304) (J2 304)) (hn : W.2.2.2.2 ≤ n2) : sp_Wd J2 L1 (nw_top W n2) (B + 2200) := by
  obtain ⟨hA, hR, hE, hT, hS⟩ := h
  have j303 : J1 303 = J 303 := j1 303 (by omega)
  have f2 : ∀ x, ¬ ((1 ≤ x ∧ x ≤ 78) ∨ (103 ≤ x ∧ x ≤ 296) ∨ x = 303 ∨ x = 304 ∨ x = 305 ∨ x = 310) → J2 x = J x := fun x a => (x2 x (by omega)).trans (j1 x (by omega))
  refine ⟨?_, ?_, ?_, ?_, ?_⟩
  · refine ((c1.w (W' := nw_top W n2) rfl).keep (J' := J2) (L' := L1) (fun x a => x2 x (by omega)) (fun _ _ => rfl) (by rw [x2 0 (by omega)])).to ⟨by omega, hB⟩ ew (by rw [k2 3 (by omega), j303]) (fun k hk => by rw [f2 306 (by omega)]; exact sp_ew.refl) (by rw [k2 5 (by omega), j303]) (sp_ew.of (f2 307 (by omega)))
  · unfold sp_wR at hR ⊢
    rw [t10, x2 1 (by omega), r1, j303]
    by_cases z : r = 0
    · rw [if_pos z, if_pos z]
      exact hR
    · rw [if_neg z, if_neg z]
      exact Or.inr ⟨by omega, rfl⟩
  · unfold sp_wE at hE ⊢
    rw [k2 8 (by omega), k2 9 (by omega), f2 0 (by omega), j303]
    exact hE
  · unfold sp_wT at hT ⊢
    rw [k2 7 (by omega), f2 297 (by omega), f2 299 (by omega), f2 308 (by omega), j303]
    exact hT
  · exact hS.keep (fun x a => f2 x (by omega)) (by rw [k2 12 (by omega), j303]) (sp_wW.top hn)
/-- a change that is done -/
theorem sp_Wd.done {J J1 J2 L L1 L2 : Nat → Int → Int} {W W1 : nw_W} {B n' : Int} {g' : Int → Int} (h : sp_Wd J L W B) (hB : B + 2200 ≤ 4000000) (j1 : ∀ x, ¬ ((1 ≤ x ∧ x ≤ 78) ∨ (103 ≤ x ∧ x ≤ 300)) → J1 x = J x) (t1 : J1 297 0 = J2 303 7 ∧ 0 ≤ J2 303 7 ∧ J2 303 7 ≤ 60 ∧ J1 299 = J 299) (w2 : W1.2.2 = W.2.2) (r1 : J1 1 0 = J 1 0) (c1 : sp_cA J1 L1 W1 g' n' (sp_psh (J 303 3) (sp_hw (J 306)) (J 304)) (J 303 5) (J 307) (B + 2200)) (l2 : ∀ x, ¬ x = 314 → L2 x = L1 x) (x2 : ∀ x, ¬ (x = 303 ∨ x = 304 ∨ x = 305 ∨ x = 306 ∨ x = 310 ∨ x = 313) → J2 x = J1 x) (k2 : ∀ k, ¬ (k = 3 ∨ k = 7 ∨ k = 13 ∨ k = 17 ∨ k = 18) → J2 303 k = J1 303 k) (t3 : J2 303 3 = n') (t4 : sp_ew g' (J2 304)) (hh : ∀ k : Nat, (k : Int) < J2 303 3 → sp_ew (sp_psh (J 303 3) (sp_hw (J 306)) (J 304) k) (sp_hw (J2 306) k)) : sp_Wd J2 L2 W1 (B + 2200) := by
  obtain ⟨hA, hR, hE, hT, hS⟩ := h
  have j303 : J1 303 = J 303 := j1 303 (by omega)
  have f2 : ∀ x, ¬ ((1 ≤ x ∧ x ≤ 78) ∨ (103 ≤ x ∧ x ≤ 300) ∨ x = 303 ∨ x = 304 ∨ x = 305 ∨ x = 306 ∨ x = 310 ∨ x = 313) → J2 x = J x := fun x a => (x2 x (by omega)).trans (j1 x (by omega))
  refine ⟨?_, ?_, ?_, ?_, ?_⟩
  · refine (c1.keep (J' := J2) (L' := L2) (fun x a => x2 x (by omega)) (fun x a => l2 x (by omega)) (by rw [x2 0 (by omega)])).to ⟨Int.le_refl _, hB⟩ t4 t3 (fun k hk => hh k (by omega)) (by rw [k2 5 (by omega), j303]) (sp_ew.of (f2 307 (by omega)))
  · unfold sp_wR at hR ⊢
    rw [k2 10 (by omega), x2 1 (by omega), r1, j303]
    exact hR
  · unfold sp_wE at hE ⊢
    rw [k2 8 (by omega), k2 9 (by omega), f2 0 (by omega), j303]
    exact hE
  · unfold sp_wT at hT ⊢
    refine ⟨by rw [x2 297 (by omega)]; exact t1.1, t1.2.1, t1.2.2.1, ?_⟩
    rw [x2 299 (by omega), t1.2.2.2, f2 308 (by omega)]
    exact hT.2.2.2
  · exact hS.keep (fun x a => f2 x (by omega)) (by rw [k2 12 (by omega), j303]) ⟨by rw [w2], by rw [w2], by rw [w2]; exact Nat.le_refl _⟩
theorem nw_cmp3_eq {x y : Int} (h : x = y) : nw_cmp3 x y = 0 := by
  unfold nw_cmp3
  rw [if_neg (by omega), if_pos h]
end
