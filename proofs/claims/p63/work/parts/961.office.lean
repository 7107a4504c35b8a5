/-! an office's numbers, and what a call on it does -/
section
variable {sc : Nat × (Nat → Int32)} {D : Nat} {J L : Nat → Int → Int} {W : nw_W} {c sl : Nat} {Qr : nw_QR} {Qx : nw_QX} {g : Int → Int} {B : Int}
/-- state, copies kept, how many, saved or not, what; reason, error, failed; the text's length and letters; the line's -/
abbrev of_S : Type := ((Int → Int) × Int × (Nat → Int → Int) × Int × (Int → Int)) × (Int × Int × Int) × (Int × (Int → Int)) × (Int × (Int → Int))
abbrev of_g (w : of_S) : Int → Int := w.1.1
abbrev of_A : Type := (Int → Int) × Int × (Nat → Int → Int) × Int × (Int → Int)
def of_L (J : Nat → Int → Int) (W : nw_W) (q : Int × (Int → Int)) : Prop := (∃ m, sp_sb J W q.1 q.2 m) ∧ ∀ k, 0 ≤ k → k < q.1 → 0 ≤ q.2 k ∧ q.2 k < 128
def of_P (J L : Nat → Int → Int) (W : nw_W) (w : of_S) (B : Int) : Prop := sp_cA J L W w.1.1 w.1.2.1 w.1.2.2.1 w.1.2.2.2.1 w.1.2.2.2.2 B ∧ (J 1 0 = w.2.1.1 ∧ J 0 11 = w.2.1.2.1 ∧ J 0 12 = w.2.1.2.2) ∧ ((J 297 0 = w.2.2.1.1 ∧ 0 ≤ w.2.2.1.1 ∧ w.2.2.1.1 ≤ 60) ∧ J 299 = w.2.2.1.2) ∧ of_L J W w.2.2.2
def of_call (cd : mw_CD) (as : List nw_V) (w : of_S) (o : Nat ⊕ Option nw_V) (w' : of_S) (δ : Int) : Prop := ∀ (sc : Nat × (Nat → Int32)) (J L : Nat → Int → Int) (W : nw_W) (B : Int) (Qr : nw_QR) (Qx : nw_QX), of_P J L W w B → B + δ ≤ 4000000 → (∀ (J' L' : Nat → Int → Int) (W' : nw_W), of_P J' L' W' w' (B + δ) → W'.2.2.1 = W.2.2.1 → W.2.2.2.2 ≤ W'.2.2.2.2 → (match o with
    | .inl e => Qx e (J', L', W')
    | .inr v => Qr v (J', L', W'))) → NW sc cd 20 (0, nw_entry cd.2.2.1 (.inr (.inl (some 0)) :: as), [], (J, L, W), 4, 24) Qr Qx
theorem sp_hp.w {W W' : nw_W} (h : sp_hp W) (e : W'.2.1 = W.2.1) : sp_hp W' := by
  unfold sp_hp at h ⊢
  rw [e]
  exact h
theorem sp_cA.w {J L : Nat → Int → Int} {W W' : nw_W} {g : Int → Int} {n v B : Int} {G : Nat → Int → Int} {S : Int → Int} (h : sp_cA J L W g n G v S B) (e : W'.2.1 = W.2.1) : sp_cA J L W' g n G v S B :=
  ⟨h.1, ⟨h.2.1.1.w e, h.2.1.2⟩, fun k hk => by rw [e]; exact h.2.2.1 k hk, h.2.2.2⟩
theorem sp_cA.upB {J L : Nat → Int → Int} {W : nw_W} {g : Int → Int} {n v B B' : Int} {G : Nat → Int → Int} {S : Int → Int} (h : sp_cA J L W g n G v S B) (hB : B ≤ B') (hB' : B' ≤ 4000000) : sp_cA J L W g n G v S B' :=
  ⟨h.1.up hB hB', h.2.1, fun k hk => (h.2.2.1 k hk).up hB hB', h.2.2.2.1, fun z => (h.2.2.2.2 z).up hB hB'⟩
def sp_wW (W W' : nw_W) : Prop := W'.2.2.1 = W.2.2.1 ∧ W'.2.2.2.1 = W.2.2.2.1 ∧ W.2.2.2.2 ≤ W'.2.2.2.2
theorem sp_wW.top {W : nw_W} {n : Nat} (h : W.2.2.2.2 ≤ n) : sp_wW W (nw_top W n) := ⟨rfl, rfl, h⟩
theorem sp_wW.refl {W : nw_W} : sp_wW W W := ⟨rfl, rfl, Nat.le_refl _⟩
theorem sp_wW.of {W W' : nw_W} (h : W'.2.2 = W.2.2) : sp_wW W W' := ⟨by rw [h], by rw [h], by rw [h]; exact Nat.le_refl _⟩
theorem of_L.keep {J J' : Nat → Int → Int} {W W' : nw_W} {q : Int × (Int → Int)} (h : of_L J W q) (e : ∀ x, (301 ≤ x) → J' x = J x) (ew : sp_wW W W') : of_L J' W' q := by
  obtain ⟨⟨m, ⟨a1, a3, a0, am⟩, amm, ⟨av, avn⟩, an3, ak, al, ab⟩, hl⟩ := h
  have eV : J' W.2.2.1 = J W.2.2.1 := e _ (by omega)
  have hk : nw_K (J', J', W') W'.2.2.1 (24, m) := by
    refine ⟨by rw [ew.1]; exact ak.1, ?_⟩
    show (if W'.2.2.1 < 303 then mw_kd0 W'.2.2.1 else W'.2.2.2.1 W'.2.2.1) = _
    rw [ew.1, ew.2.1]
    exact ak.2
  exact ⟨⟨m, ⟨by rw [e 301 (by omega)]; exact a1, by rw [e 301 (by omega)]; exact a3, a0, am⟩, amm, ⟨by rw [ew.1]; exact av, by rw [ew.1]; have := ew.2.2; omega⟩, by have := ew.2.2; omega, hk, fun k k0 k1 => by rw [ew.1, eV]; exact al k k0 k1, fun k k0 k1 => by rw [ew.1, eV]; exact ab k k0 k1⟩, hl⟩
theorem of_P.top {w : of_S} {n : Nat} (h : of_P J L W w B) (hn : W.2.2.2.2 ≤ n) : of_P J L (nw_top W n) w B := ⟨h.1.w rfl, h.2.1, h.2.2.1, h.2.2.2.keep (fun _ _ => rfl) (sp_wW.top hn)⟩
/-- a question changes nothing -/
theorem of_P.q {J' : Nat → Int → Int} {w : of_S} {n : Nat} (h : of_P J L W w B) (e : sp_wrk J J') (hn : W.2.2.2.2 ≤ n) : of_P J' L (nw_top W n) w (B + 0) := by
  rw [Int.add_zero]
  obtain ⟨hA, ⟨r1, r2, r3⟩, ⟨t1, t2⟩, hl⟩ := h
  exact ⟨(hA.w rfl).keep (fun x a => e x (by omega)) (fun _ _ => rfl) (by rw [e 0 (by omega)]), ⟨by rw [e 1 (by omega)]; exact r1, by rw [e 0 (by omega)]; exact r2, by rw [e 0 (by omega)]; exact r3⟩, ⟨by rw [e 297 (by omega)]; exact t1, by rw [e 299 (by omega)]; exact t2⟩, hl.keep (fun x a => e x (by omega)) (sp_wW.top hn)⟩
/-- a change that fails -/
def of_fl (w : of_S) (r : Int) : of_S := (w.1, ((if r = 0 then w.2.1.1 else r), w.2.1.2), w.2.2)
/-- a change that is made -/
def of_ok (w : of_S) (g' : Int → Int) : of_S := ((g', (if w.1.2.1 = 8 then 8 else w.1.2.1 + 1), sp_psh w.1.2.1 w.1.2.2.1 w.1.1, w.1.2.2.2), w.2)
theorem of_P.fail {J1 L1 : Nat → Int → Int} {w : of_S} {r : Int} {n2 : Nat} (h : of_P J L W w B) (hB : B + 200 ≤ 4000000) (j1 : sp_jf J J1) (r1 : J1 1 0 = (if r = 0 then J 1 0 else r)) (c1 : sp_cA J1 L1 W w.1.1 w.1.2.1 w.1.2.2.1 w.1.2.2.2.1 w.1.2.2.2.2 B) (hn : W.2.2.2.2 ≤ n2) : of_P J1 L1 (nw_top W n2) (of_fl w r) (B + 200) := by
  obtain ⟨hA, ⟨r1', r2, r3⟩, ⟨t1, t2⟩, hl⟩ := h
  refine ⟨(c1.w rfl).upB (by omega) hB, ⟨?_, ?_, ?_⟩, ⟨?_, ?_⟩, hl.keep (fun x a => j1 x (by omega)) (sp_wW.top hn)⟩
  · rw [r1, r1']
    rfl
  · rw [j1 0 (by omega)]
    exact r2
  · rw [j1 0 (by omega)]
    exact r3
  · rw [j1 297 (by omega)]
    exact t1
  · rw [j1 299 (by omega)]
    exact t2
theorem of_P.done {J1 L1 : Nat → Int → Int} {W1 : nw_W} {w : of_S} {g' : Int → Int} (h : of_P J L W w B) (j1 : sp_jf J J1) (w2 : W1.2.2 = W.2.2) (r1 : J1 1 0 = J 1 0) (c1 : sp_cA J1 L1 W1 g' (if w.1.2.1 = 8 then 8 else w.1.2.1 + 1) (sp_psh w.1.2.1 w.1.2.2.1 w.1.1) w.1.2.2.2.1 w.1.2.2.2.2 (B + 200)) : of_P J1 L1 W1 (of_ok w g') (B + 200) := by
  obtain ⟨hA, ⟨r1', r2, r3⟩, ⟨t1, t2⟩, hl⟩ := h
  refine ⟨c1, ⟨?_, ?_, ?_⟩, ⟨?_, ?_⟩, hl.keep (fun x a => j1 x (by omega)) (sp_wW.of w2)⟩
  · rw [r1]
    exact r1'
  · rw [j1 0 (by omega)]
    exact r2
  · rw [j1 0 (by omega)]
    exact r3
  · rw [j1 297 (by omega)]
    exact t1
  · rw [j1 299 (by omega)]
    exact t2
/-- the eleven changes -/
def of_chg (κ : Nat) : mw_CD := match κ with
  | 0 => d_X11_addCrater
  | 1 => d_X11_addChannel
  | 2 => d_X11_addFerry
  | 3 => d_X11_addMoon
  | 4 => d_X11_sail
  | 5 => d_X11_board
  | 6 => d_X11_land
  | 7 => d_X11_loadBest
  | 8 => d_X11_rescue
  | 9 => d_X11_pass
  | _ => d_X11_removeChannel
def of_ar (κ : Nat) (a b c d : Int) : List nw_V := match κ with
  | 0 => [.inl a]
  | 1 => [.inl a, .inl b, .inl c, .inl d]
  | 2 => [.inl a, .inl b, .inl c]
  | 3 => [.inl a, .inl b, .inl c, .inl d]
  | 4 => [.inl a, .inl b]
  | 5 => [.inl a, .inl b]
  | 6 => [.inl a]
  | 7 => [.inl a]
  | 8 => [.inl a]
  | 9 => [.inl a]
  | _ => [.inl a]
theorem of_addCrater {w : of_S} {a : Int} : (sp_oo 0 w.1.1 a 0 0 0 → of_call d_X11_addCrater [.inl a] w (.inr (some (.inl (sp_ov 0 w.1.1 a 0)))) (of_ok w (sp_og 0 w.1.1 a 0 0 0)) 200) ∧ (∀ e r, sp_of 0 w.1.1 a 0 0 0 e r → of_call d_X11_addCrater [.inl a] w (.inl (-1 - e).toNat) (of_fl w r) 200) ∧ (¬ sp_oo 0 w.1.1 a 0 0 0 → (∀ e r, ¬ sp_of 0 w.1.1 a 0 0 0 e r) → ∀ o w', of_call d_X11_addCrater [.inl a] w o w' 200) := by
  have main : ∀ (o : Nat ⊕ Option nw_V) (w' : of_S), (sp_oo 0 w.1.1 a 0 0 0 → o = .inr (some (.inl (sp_ov 0 w.1.1 a 0))) ∧ w' = of_ok w (sp_og 0 w.1.1 a 0 0 0)) → (∀ e r, sp_of 0 w.1.1 a 0 0 0 e r → o = .inl (-1 - e).toNat ∧ w' = of_fl w r) → of_call d_X11_addCrater [.inl a] w o w' 200 := by
    intro o w' h1 h2 sc J L W B Qr Qx h hB hQ
    show NW sc d_X11_addCrater 20 (0, [some (.inr (.inl (some 0))), some (.inl a)], [], (J, L, W), 4, 24) Qr Qx
    refine t_X11_addCrater h.1 hB (by decide) (by decide) (by decide) (fun e r hf J1 L1 j1 l1 r1 c1 n2 hn => ?_) (fun ho J1 L1 W1 j1 l1 w1 w2 r1 c1 => ?_)
    · obtain ⟨rfl, rfl⟩ := h2 e r hf
      exact hQ J1 L1 (nw_top W n2) (h.fail hB j1 r1 c1 hn) rfl hn
    · obtain ⟨rfl, rfl⟩ := h1 ho
      exact hQ J1 L1 W1 (h.done j1 w2 r1 c1) (by rw [w2]) (by rw [w2]; exact Nat.le_refl _)
  refine ⟨fun h => main _ _ (fun _ => ⟨rfl, rfl⟩) (fun e r hf => (op_excl hf h).elim), fun e r hf => main _ _ (fun h => (op_excl hf h).elim) (fun e' r' hf' => ?_), fun h hf o w' => main o w' (fun z => absurd z h) (fun e r z => absurd z (hf e r))⟩
  obtain ⟨rfl, rfl⟩ := op_det hf hf'
  exact ⟨rfl, rfl⟩
theorem of_addChannel {w : of_S} {a b c d : Int} : (sp_oo 1 w.1.1 a b c d → of_call d_X11_addChannel [.inl a, .inl b, .inl c, .inl d] w (.inr (some (.inl (sp_ov 1 w.1.1 a b)))) (of_ok w (sp_og 1 w.1.1 a b c d)) 200) ∧ (∀ e r, sp_of 1 w.1.1 a b c d e r → of_call d_X11_addChannel [.inl a, .inl b, .inl c, .inl d] w (.inl (-1 - e).toNat) (of_fl w r) 200) ∧ (¬ sp_oo 1 w.1.1 a b c d → (∀ e r, ¬ sp_of 1 w.1.1 a b c d e r) → ∀ o w', of_call d_X11_addChannel [.inl a, .inl b, .inl c, .inl d] w o w' 200) := by
  have main : ∀ (o : Nat ⊕ Option nw_V) (w' : of_S), (sp_oo 1 w.1.1 a b c d → o = .inr (some (.inl (sp_ov 1 w.1.1 a b))) ∧ w' = of_ok w (sp_og 1 w.1.1 a b c d)) → (∀ e r, sp_of 1 w.1.1 a b c d e r → o = .inl (-1 - e).toNat ∧ w' = of_fl w r) → of_call d_X11_addChannel [.inl a, .inl b, .inl c, .inl d] w o w' 200 := by
    intro o w' h1 h2 sc J L W B Qr Qx h hB hQ
    show NW sc d_X11_addChannel 20 (0, [some (.inr (.inl (some 0))), some (.inl a), some (.inl b), some (.inl c), some (.inl d)], [], (J, L, W), 4, 24) Qr Qx
    refine t_X11_addChannel h.1 hB (by decide) (by decide) (by decide) (fun e r hf J1 L1 j1 l1 r1 c1 n2 hn => ?_) (fun ho J1 L1 W1 j1 l1 w1 w2 r1 c1 => ?_)
    · obtain ⟨rfl, rfl⟩ := h2 e r hf
      exact hQ J1 L1 (nw_top W n2) (h.fail hB j1 r1 c1 hn) rfl hn
    · obtain ⟨rfl, rfl⟩ := h1 ho
      exact hQ J1 L1 W1 (h.done j1 w2 r1 c1) (by rw [w2]) (by rw [w2]; exact Nat.le_refl _)
  refine ⟨fun h => main _ _ (fun _ => ⟨rfl, rfl⟩) (fun e r hf => (op_excl hf h).elim), fun e r hf => main _ _ (fun h => (op_excl hf h).elim) (fun e' r' hf' => ?_), fun h hf o w' => main o w' (fun z => absurd z h) (fun e r z => absurd z (hf e r))⟩
  obtain ⟨rfl, rfl⟩ := op_det hf hf'
  exact ⟨rfl, rfl⟩
theorem of_addFerry {w : of_S} {a b c : Int} : (sp_oo 2 w.1.1 a b c 0 → of_call d_X11_addFerry [.inl a, .inl b, .inl c] w (.inr (some (.inl (sp_ov 2 w.1.1 a b)))) (of_ok w (sp_og 2 w.1.1 a b c 0)) 200) ∧ (∀ e r, sp_of 2 w.1.1 a b c 0 e r → of_call d_X11_addFerry [.inl a, .inl b, .inl c] w (.inl (-1 - e).toNat) (of_fl w r) 200) ∧ (¬ sp_oo 2 w.1.1 a b c 0 → (∀ e r, ¬ sp_of 2 w.1.1 a b c 0 e r) → ∀ o w', of_call d_X11_addFerry [.inl a, .inl b, .inl c] w o w' 200) := by
  have main : ∀ (o : Nat ⊕ Option nw_V) (w' : of_S), (sp_oo 2 w.1.1 a b c 0 → o = .inr (some (.inl (sp_ov 2 w.1.1 a b))) ∧ w' = of_ok w (sp_og 2 w.1.1 a b c 0)) → (∀ e r, sp_of 2 w.1.1 a b c 0 e r → o = .inl (-1 - e).toNat ∧ w' = of_fl w r) → of_call d_X11_addFerry [.inl a, .inl b, .inl c] w o w' 200 := by
    intro o w' h1 h2 sc J L W B Qr Qx h hB hQ
    show NW sc d_X11_addFerry 20 (0, [some (.inr (.inl (some 0))), some (.inl a), some (.inl b), some (.inl c)], [], (J, L, W), 4, 24) Qr Qx
    refine t_X11_addFerry h.1 hB (by decide) (by decide) (by decide) (fun e r hf J1 L1 j1 l1 r1 c1 n2 hn => ?_) (fun ho J1 L1 W1 j1 l1 w1 w2 r1 c1 => ?_)
    · obtain ⟨rfl, rfl⟩ := h2 e r hf
      exact hQ J1 L1 (nw_top W n2) (h.fail hB j1 r1 c1 hn) rfl hn
    · obtain ⟨rfl, rfl⟩ := h1 ho
      exact hQ J1 L1 W1 (h.done j1 w2 r1 c1) (by rw [w2]) (by rw [w2]; exact Nat.le_refl _)
  refine ⟨fun h => main _ _ (fun _ => ⟨rfl, rfl⟩) (fun e r hf => (op_excl hf h).elim), fun e r hf => main _ _ (fun h => (op_excl hf h).elim) (fun e' r' hf' => ?_), fun h hf o w' => main o w' (fun z => absurd z h) (fun e r z => absurd z (hf e r))⟩
  obtain ⟨rfl, rfl⟩ := op_det hf hf'
  exact ⟨rfl, rfl⟩
theorem of_addMoon {w : of_S} {a b c d : Int} : (sp_oo 3 w.1.1 a b c d → of_call d_X11_addMoon [.inl a, .inl b, .inl c, .inl d] w (.inr (some (.inl (sp_ov 3 w.1.1 a b)))) (of_ok w (sp_og 3 w.1.1 a b c d)) 200) ∧ (∀ e r, sp_of 3 w.1.1 a b c d e r → of_call d_X11_addMoon [.inl a, .inl b, .inl c, .inl d] w (.inl (-1 - e).toNat) (of_fl w r) 200) ∧ (¬ sp_oo 3 w.1.1 a b c d → (∀ e r, ¬ sp_of 3 w.1.1 a b c d e r) → ∀ o w', of_call d_X11_addMoon [.inl a, .inl b, .inl c, .inl d] w o w' 200) := by
  have main : ∀ (o : Nat ⊕ Option nw_V) (w' : of_S), (sp_oo 3 w.1.1 a b c d → o = .inr (some (.inl (sp_ov 3 w.1.1 a b))) ∧ w' = of_ok w (sp_og 3 w.1.1 a b c d)) → (∀ e r, sp_of 3 w.1.1 a b c d e r → o = .inl (-1 - e).toNat ∧ w' = of_fl w r) → of_call d_X11_addMoon [.inl a, .inl b, .inl c, .inl d] w o w' 200 := by
    intro o w' h1 h2 sc J L W B Qr Qx h hB hQ
    show NW sc d_X11_addMoon 20 (0, [some (.inr (.inl (some 0))), some (.inl a), some (.inl b), some (.inl c), some (.inl d)], [], (J, L, W), 4, 24) Qr Qx
    refine t_X11_addMoon h.1 hB (by decide) (by decide) (by decide) (fun e r hf J1 L1 j1 l1 r1 c1 n2 hn => ?_) (fun ho J1 L1 W1 j1 l1 w1 w2 r1 c1 => ?_)
    · obtain ⟨rfl, rfl⟩ := h2 e r hf
      exact hQ J1 L1 (nw_top W n2) (h.fail hB j1 r1 c1 hn) rfl hn
    · obtain ⟨rfl, rfl⟩ := h1 ho
      exact hQ J1 L1 W1 (h.done j1 w2 r1 c1) (by rw [w2]) (by rw [w2]; exact Nat.le_refl _)
  refine ⟨fun h => main _ _ (fun _ => ⟨rfl, rfl⟩) (fun e r hf => (op_excl hf h).elim), fun e r hf => main _ _ (fun h => (op_excl hf h).elim) (fun e' r' hf' => ?_), fun h hf o w' => main o w' (fun z => absurd z h) (fun e r z => absurd z (hf e r))⟩
  obtain ⟨rfl, rfl⟩ := op_det hf hf'
  exact ⟨rfl, rfl⟩
theorem of_sail {w : of_S} {a b : Int} : (sp_oo 4 w.1.1 a b 0 0 → of_call d_X11_sail [.inl a, .inl b] w (.inr (some (.inl (sp_ov 4 w.1.1 a b)))) (of_ok w (sp_og 4 w.1.1 a b 0 0)) 200) ∧ (∀ e r, sp_of 4 w.1.1 a b 0 0 e r → of_call d_X11_sail [.inl a, .inl b] w (.inl (-1 - e).toNat) (of_fl w r) 200) ∧ (¬ sp_oo 4 w.1.1 a b 0 0 → (∀ e r, ¬ sp_of 4 w.1.1 a b 0 0 e r) → ∀ o w', of_call d_X11_sail [.inl a, .inl b] w o w' 200) := by
  have main : ∀ (o : Nat ⊕ Option nw_V) (w' : of_S), (sp_oo 4 w.1.1 a b 0 0 → o = .inr (some (.inl (sp_ov 4 w.1.1 a b))) ∧ w' = of_ok w (sp_og 4 w.1.1 a b 0 0)) → (∀ e r, sp_of 4 w.1.1 a b 0 0 e r → o = .inl (-1 - e).toNat ∧ w' = of_fl w r) → of_call d_X11_sail [.inl a, .inl b] w o w' 200 := by
    intro o w' h1 h2 sc J L W B Qr Qx h hB hQ
    show NW sc d_X11_sail 20 (0, [some (.inr (.inl (some 0))), some (.inl a), some (.inl b)], [], (J, L, W), 4, 24) Qr Qx
    refine t_X11_sail h.1 hB (by decide) (by decide) (by decide) (fun e r hf J1 L1 j1 l1 r1 c1 n2 hn => ?_) (fun ho J1 L1 W1 j1 l1 w1 w2 r1 c1 => ?_)
    · obtain ⟨rfl, rfl⟩ := h2 e r hf
      exact hQ J1 L1 (nw_top W n2) (h.fail hB j1 r1 c1 hn) rfl hn
    · obtain ⟨rfl, rfl⟩ := h1 ho
      exact hQ J1 L1 W1 (h.done j1 w2 r1 c1) (by rw [w2]) (by rw [w2]; exact Nat.le_refl _)
  refine ⟨fun h => main _ _ (fun _ => ⟨rfl, rfl⟩) (fun e r hf => (op_excl hf h).elim), fun e r hf => main _ _ (fun h => (op_excl hf h).elim) (fun e' r' hf' => ?_), fun h hf o w' => main o w' (fun z => absurd z h) (fun e r z => absurd z (hf e r))⟩
  obtain ⟨rfl, rfl⟩ := op_det hf hf'
  exact ⟨rfl, rfl⟩
theorem of_board {w : of_S} {a b : Int} : (sp_oo 5 w.1.1 a b 0 0 → of_call d_X11_board [.inl a, .inl b] w (.inr (some (.inl (sp_ov 5 w.1.1 a b)))) (of_ok w (sp_og 5 w.1.1 a b 0 0)) 200) ∧ (∀ e r, sp_of 5 w.1.1 a b 0 0 e r → of_call d_X11_board [.inl a, .inl b] w (.inl (-1 - e).toNat) (of_fl w r) 200) ∧ (¬ sp_oo 5 w.1.1 a b 0 0 → (∀ e r, ¬ sp_of 5 w.1.1 a b 0 0 e r) → ∀ o w', of_call d_X11_board [.inl a, .inl b] w o w' 200) := by
  have main : ∀ (o : Nat ⊕ Option nw_V) (w' : of_S), (sp_oo 5 w.1.1 a b 0 0 → o = .inr (some (.inl (sp_ov 5 w.1.1 a b))) ∧ w' = of_ok w (sp_og 5 w.1.1 a b 0 0)) → (∀ e r, sp_of 5 w.1.1 a b 0 0 e r → o = .inl (-1 - e).toNat ∧ w' = of_fl w r) → of_call d_X11_board [.inl a, .inl b] w o w' 200 := by
    intro o w' h1 h2 sc J L W B Qr Qx h hB hQ
    show NW sc d_X11_board 20 (0, [some (.inr (.inl (some 0))), some (.inl a), some (.inl b)], [], (J, L, W), 4, 24) Qr Qx
    refine t_X11_board h.1 hB (by decide) (by decide) (by decide) (fun e r hf J1 L1 j1 l1 r1 c1 n2 hn => ?_) (fun ho J1 L1 W1 j1 l1 w1 w2 r1 c1 => ?_)
    · obtain ⟨rfl, rfl⟩ := h2 e r hf
      exact hQ J1 L1 (nw_top W n2) (h.fail hB j1 r1 c1 hn) rfl hn
    · obtain ⟨rfl, rfl⟩ := h1 ho
      exact hQ J1 L1 W1 (h.done j1 w2 r1 c1) (by rw [w2]) (by rw [w2]; exact Nat.le_refl _)
  refine ⟨fun h => main _ _ (fun _ => ⟨rfl, rfl⟩) (fun e r hf => (op_excl hf h).elim), fun e r hf => main _ _ (fun h => (op_excl hf h).elim) (fun e' r' hf' => ?_), fun h hf o w' => main o w' (fun z => absurd z h) (fun e r z => absurd z (hf e r))⟩
  obtain ⟨rfl, rfl⟩ := op_det hf hf'
  exact ⟨rfl, rfl⟩
theorem of_land {w : of_S} {a : Int} : (sp_oo 6 w.1.1 a 0 0 0 → of_call d_X11_land [.inl a] w (.inr (some (.inl (sp_ov 6 w.1.1 a 0)))) (of_ok w (sp_og 6 w.1.1 a 0 0 0)) 200) ∧ (∀ e r, sp_of 6 w.1.1 a 0 0 0 e r → of_call d_X11_land [.inl a] w (.inl (-1 - e).toNat) (of_fl w r) 200) ∧ (¬ sp_oo 6 w.1.1 a 0 0 0 → (∀ e r, ¬ sp_of 6 w.1.1 a 0 0 0 e r) → ∀ o w', of_call d_X11_land [.inl a] w o w' 200) := by
  have main : ∀ (o : Nat ⊕ Option nw_V) (w' : of_S), (sp_oo 6 w.1.1 a 0 0 0 → o = .inr (some (.inl (sp_ov 6 w.1.1 a 0))) ∧ w' = of_ok w (sp_og 6 w.1.1 a 0 0 0)) → (∀ e r, sp_of 6 w.1.1 a 0 0 0 e r → o = .inl (-1 - e).toNat ∧ w' = of_fl w r) → of_call d_X11_land [.inl a] w o w' 200 := by
    intro o w' h1 h2 sc J L W B Qr Qx h hB hQ
    show NW sc d_X11_land 20 (0, [some (.inr (.inl (some 0))), some (.inl a)], [], (J, L, W), 4, 24) Qr Qx
    refine t_X11_land h.1 hB (by decide) (by decide) (by decide) (fun e r hf J1 L1 j1 l1 r1 c1 n2 hn => ?_) (fun ho J1 L1 W1 j1 l1 w1 w2 r1 c1 => ?_)
    · obtain ⟨rfl, rfl⟩ := h2 e r hf
      exact hQ J1 L1 (nw_top W n2) (h.fail hB j1 r1 c1 hn) rfl hn
    · obtain ⟨rfl, rfl⟩ := h1 ho
      exact hQ J1 L1 W1 (h.done j1 w2 r1 c1) (by rw [w2]) (by rw [w2]; exact Nat.le_refl _)
  refine ⟨fun h => main _ _ (fun _ => ⟨rfl, rfl⟩) (fun e r hf => (op_excl hf h).elim), fun e r hf => main _ _ (fun h => (op_excl hf h).elim) (fun e' r' hf' => ?_), fun h hf o w' => main o w' (fun z => absurd z h) (fun e r z => absurd z (hf e r))⟩
  obtain ⟨rfl, rfl⟩ := op_det hf hf'
  exact ⟨rfl, rfl⟩
theorem of_loadBest {w : of_S} {a : Int} : (sp_oo 7 w.1.1 a 0 0 0 → of_call d_X11_loadBest [.inl a] w (.inr (some (.inl (sp_ov 7 w.1.1 a 0)))) (of_ok w (sp_og 7 w.1.1 a 0 0 0)) 200) ∧ (∀ e r, sp_of 7 w.1.1 a 0 0 0 e r → of_call d_X11_loadBest [.inl a] w (.inl (-1 - e).toNat) (of_fl w r) 200) ∧ (¬ sp_oo 7 w.1.1 a 0 0 0 → (∀ e r, ¬ sp_of 7 w.1.1 a 0 0 0 e r) → ∀ o w', of_call d_X11_loadBest [.inl a] w o w' 200) := by
  have main : ∀ (o : Nat ⊕ Option nw_V) (w' : of_S), (sp_oo 7 w.1.1 a 0 0 0 → o = .inr (some (.inl (sp_ov 7 w.1.1 a 0))) ∧ w' = of_ok w (sp_og 7 w.1.1 a 0 0 0)) → (∀ e r, sp_of 7 w.1.1 a 0 0 0 e r → o = .inl (-1 - e).toNat ∧ w' = of_fl w r) → of_call d_X11_loadBest [.inl a] w o w' 200 := by
    intro o w' h1 h2 sc J L W B Qr Qx h hB hQ
    show NW sc d_X11_loadBest 20 (0, [some (.inr (.inl (some 0))), some (.inl a)], [], (J, L, W), 4, 24) Qr Qx
    refine t_X11_loadBest h.1 hB (by decide) (by decide) (by decide) (fun e r hf J1 L1 j1 l1 r1 c1 n2 hn => ?_) (fun ho J1 L1 W1 j1 l1 w1 w2 r1 c1 => ?_)
    · obtain ⟨rfl, rfl⟩ := h2 e r hf
      exact hQ J1 L1 (nw_top W n2) (h.fail hB j1 r1 c1 hn) rfl hn
    · obtain ⟨rfl, rfl⟩ := h1 ho
      exact hQ J1 L1 W1 (h.done j1 w2 r1 c1) (by rw [w2]) (by rw [w2]; exact Nat.le_refl _)
  refine ⟨fun h => main _ _ (fun _ => ⟨rfl, rfl⟩) (fun e r hf => (op_excl hf h).elim), fun e r hf => main _ _ (fun h => (op_excl hf h).elim) (fun e' r' hf' => ?_), fun h hf o w' => main o w' (fun z => absurd z h) (fun e r z => absurd z (hf e r))⟩
  obtain ⟨rfl, rfl⟩ := op_det hf hf'
  exact ⟨rfl, rfl⟩
theorem of_rescue {w : of_S} {a : Int} : (sp_oo 8 w.1.1 a 0 0 0 → of_call d_X11_rescue [.inl a] w (.inr (some (.inl (sp_ov 8 w.1.1 a 0)))) (of_ok w (sp_og 8 w.1.1 a 0 0 0)) 200) ∧ (∀ e r, sp_of 8 w.1.1 a 0 0 0 e r → of_call d_X11_rescue [.inl a] w (.inl (-1 - e).toNat) (of_fl w r) 200) ∧ (¬ sp_oo 8 w.1.1 a 0 0 0 → (∀ e r, ¬ sp_of 8 w.1.1 a 0 0 0 e r) → ∀ o w', of_call d_X11_rescue [.inl a] w o w' 200) := by
  have main : ∀ (o : Nat ⊕ Option nw_V) (w' : of_S), (sp_oo 8 w.1.1 a 0 0 0 → o = .inr (some (.inl (sp_ov 8 w.1.1 a 0))) ∧ w' = of_ok w (sp_og 8 w.1.1 a 0 0 0)) → (∀ e r, sp_of 8 w.1.1 a 0 0 0 e r → o = .inl (-1 - e).toNat ∧ w' = of_fl w r) → of_call d_X11_rescue [.inl a] w o w' 200 := by
    intro o w' h1 h2 sc J L W B Qr Qx h hB hQ
    show NW sc d_X11_rescue 20 (0, [some (.inr (.inl (some 0))), some (.inl a)], [], (J, L, W), 4, 24) Qr Qx
    refine t_X11_rescue h.1 hB (by decide) (by decide) (by decide) (fun e r hf J1 L1 j1 l1 r1 c1 n2 hn => ?_) (fun ho J1 L1 W1 j1 l1 w1 w2 r1 c1 => ?_)
    · obtain ⟨rfl, rfl⟩ := h2 e r hf
      exact hQ J1 L1 (nw_top W n2) (h.fail hB j1 r1 c1 hn) rfl hn
    · obtain ⟨rfl, rfl⟩ := h1 ho
      exact hQ J1 L1 W1 (h.done j1 w2 r1 c1) (by rw [w2]) (by rw [w2]; exact Nat.le_refl _)
  refine ⟨fun h => main _ _ (fun _ => ⟨rfl, rfl⟩) (fun e r hf => (op_excl hf h).elim), fun e r hf => main _ _ (fun h => (op_excl hf h).elim) (fun e' r' hf' => ?_), fun h hf o w' => main o w' (fun z => absurd z h) (fun e r z => absurd z (hf e r))⟩
  obtain ⟨rfl, rfl⟩ := op_det hf hf'
  exact ⟨rfl, rfl⟩
theorem of_pass {w : of_S} {a : Int} : (sp_oo 9 w.1.1 a 0 0 0 → of_call d_X11_pass [.inl a] w (.inr (some (.inl (sp_ov 9 w.1.1 a 0)))) (of_ok w (sp_og 9 w.1.1 a 0 0 0)) 200) ∧ (∀ e r, sp_of 9 w.1.1 a 0 0 0 e r → of_call d_X11_pass [.inl a] w (.inl (-1 - e).toNat) (of_fl w r) 200) ∧ (¬ sp_oo 9 w.1.1 a 0 0 0 → (∀ e r, ¬ sp_of 9 w.1.1 a 0 0 0 e r) → ∀ o w', of_call d_X11_pass [.inl a] w o w' 200) := by
  have main : ∀ (o : Nat ⊕ Option nw_V) (w' : of_S), (sp_oo 9 w.1.1 a 0 0 0 → o = .inr (some (.inl (sp_ov 9 w.1.1 a 0))) ∧ w' = of_ok w (sp_og 9 w.1.1 a 0 0 0)) → (∀ e r, sp_of 9 w.1.1 a 0 0 0 e r → o = .inl (-1 - e).toNat ∧ w' = of_fl w r) → of_call d_X11_pass [.inl a] w o w' 200 := by
    intro o w' h1 h2 sc J L W B Qr Qx h hB hQ
    show NW sc d_X11_pass 20 (0, [some (.inr (.inl (some 0))), some (.inl a)], [], (J, L, W), 4, 24) Qr Qx
    refine t_X11_pass h.1 hB (by decide) (by decide) (by decide) (fun e r hf J1 L1 j1 l1 r1 c1 n2 hn => ?_) (fun ho J1 L1 W1 j1 l1 w1 w2 r1 c1 => ?_)
    · obtain ⟨rfl, rfl⟩ := h2 e r hf
      exact hQ J1 L1 (nw_top W n2) (h.fail hB j1 r1 c1 hn) rfl hn
    · obtain ⟨rfl, rfl⟩ := h1 ho
      exact hQ J1 L1 W1 (h.done j1 w2 r1 c1) (by rw [w2]) (by rw [w2]; exact Nat.le_refl _)
  refine ⟨fun h => main _ _ (fun _ => ⟨rfl, rfl⟩) (fun e r hf => (op_excl hf h).elim), fun e r hf => main _ _ (fun h => (op_excl hf h).elim) (fun e' r' hf' => ?_), fun h hf o w' => main o w' (fun z => absurd z h) (fun e r z => absurd z (hf e r))⟩
  obtain ⟨rfl, rfl⟩ := op_det hf hf'
  exact ⟨rfl, rfl⟩
theorem of_removeChannel {w : of_S} {a : Int} : (sp_oo 10 w.1.1 a 0 0 0 → of_call d_X11_removeChannel [.inl a] w (.inr (some (.inl (sp_ov 10 w.1.1 a 0)))) (of_ok w (sp_og 10 w.1.1 a 0 0 0)) 200) ∧ (∀ e r, sp_of 10 w.1.1 a 0 0 0 e r → of_call d_X11_removeChannel [.inl a] w (.inl (-1 - e).toNat) (of_fl w r) 200) ∧ (¬ sp_oo 10 w.1.1 a 0 0 0 → (∀ e r, ¬ sp_of 10 w.1.1 a 0 0 0 e r) → ∀ o w', of_call d_X11_removeChannel [.inl a] w o w' 200) := by
  have main : ∀ (o : Nat ⊕ Option nw_V) (w' : of_S), (sp_oo 10 w.1.1 a 0 0 0 → o = .inr (some (.inl (sp_ov 10 w.1.1 a 0))) ∧ w' = of_ok w (sp_og 10 w.1.1 a 0 0 0)) → (∀ e r, sp_of 10 w.1.1 a 0 0 0 e r → o = .inl (-1 - e).toNat ∧ w' = of_fl w r) → of_call d_X11_removeChannel [.inl a] w o w' 200 := by
    intro o w' h1 h2 sc J L W B Qr Qx h hB hQ
    show NW sc d_X11_removeChannel 20 (0, [some (.inr (.inl (some 0))), some (.inl a)], [], (J, L, W), 4, 24) Qr Qx
    refine t_X11_removeChannel h.1 hB (by decide) (by decide) (by decide) (fun e r hf J1 L1 j1 l1 r1 c1 n2 hn => ?_) (fun ho J1 L1 W1 j1 l1 w1 w2 r1 c1 => ?_)
    · obtain ⟨rfl, rfl⟩ := h2 e r hf
      exact hQ J1 L1 (nw_top W n2) (h.fail hB j1 r1 c1 hn) rfl hn
    · obtain ⟨rfl, rfl⟩ := h1 ho
      exact hQ J1 L1 W1 (h.done j1 w2 r1 c1) (by rw [w2]) (by rw [w2]; exact Nat.le_refl _)
  refine ⟨fun h => main _ _ (fun _ => ⟨rfl, rfl⟩) (fun e r hf => (op_excl hf h).elim), fun e r hf => main _ _ (fun h => (op_excl hf h).elim) (fun e' r' hf' => ?_), fun h hf o w' => main o w' (fun z => absurd z h) (fun e r z => absurd z (hf e r))⟩
  obtain ⟨rfl, rfl⟩ := op_det hf hf'
  exact ⟨rfl, rfl⟩
end
