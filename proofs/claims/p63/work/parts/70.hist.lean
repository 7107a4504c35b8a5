/-! history -/
section
variable {sc : Nat × (Nat → Int32)} {D : Nat} {J L : Nat → Int → Int} {W : nw_W} {c sl : Nat} {Qr : nw_QR} {Qx : nw_QX} {g : Int → Int} {B : Int}
/-- the state at place a is the word g -/
def sp_ok (a : Nat) (J L : Nat → Int → Int) (g : Int → Int) (B : Int) : Prop := RC (sp_sh a J) (sp_sh a L) g ∧ Inv g B ∧ sp_fut g
theorem sp_ok.keep {a : Nat} {J J' L L' : Nat → Int → Int} {g : Int → Int} {B : Int} (h : sp_ok a J L g B) (e : ∀ x, a ≤ x → x ≤ a + 23 → J' x = J x) (el : L' a = L a) : sp_ok a J' L' g B := ⟨h.1.shK h.2.1 e el, h.2⟩
theorem sp_ok.ew {a : Nat} {J L : Nat → Int → Int} {g g' : Int → Int} {B : Int} (h : sp_ok a J L g B) (e : sp_ew g g') : sp_ok a J L g' B := ⟨h.1.ew h.2.1 e, h.2.1.ew e, fut_ew h.2.2 h.2.1 e⟩
theorem Inv.up {g : Int → Int} {B B' : Int} (h : Inv g B) (hB : B ≤ B') (hB' : B' ≤ 4000000) : Inv g B' := by
  have b := h.bd
  have h0 := h.ho
  have h5 := h.nx
  have h6 := h.fa
  have h7 := h.re
  have h8 := h.pa
  have h9 := h.sn
  exact ⟨by omega, by omega, h.cr, h.ch, h.fe, h.mo, by omega, by omega, by omega, by omega, by omega, h.dep, h.cha, h.uni, h.fer, h.moo, h.car, h.zer⟩
theorem sp_ok.up {a : Nat} {J L : Nat → Int → Int} {g : Int → Int} {B B' : Int} (h : sp_ok a J L g B) (hB : B ≤ B') (hB' : B' ≤ 4000000) : sp_ok a J L g B' := ⟨h.1, h.2.1.up hB hB', h.2.2⟩
theorem t_X8_copies {p q : Nat} (hp : nw_st p = true) (hq : nw_st q = true) (h : ¬ p = q) (hD : 1 ≤ D) (hQ : ∀ J' L', (∀ x, ¬ (p ≤ x ∧ x ≤ p + 23) → J' x = J x) → (∀ x, ¬ x = p → L' x = L x) → (∀ g B, sp_ok q J L g B → sp_ok p J' L' g B) → Qr none (J', L', W)) : NW sc d_X8_copyFrom D (0, [some (.inr (.inl (some (p)))), some (.inr (.inl (some (q))))], [], (J, L, W), c, sl) Qr Qx :=
  t_X8_copyFrom hp hq h hD (fun J' L' x l r => hQ J' L' x l (fun g B k => ⟨r g B k.2.1 k.1, k.2⟩))
/-- the states of history, each once -/
def sp_hp (W : nw_W) : Prop := (∀ k, k < 8 → nw_st (W.2.1 k) = true ∧ 105 ≤ W.2.1 k) ∧ ∀ i j, i < 8 → j < 8 → W.2.1 i = W.2.1 j → i = j
theorem nw_st_le {a : Nat} (h : nw_st a = true) : a ≤ 273 := nw_stC (P := fun a => a ≤ 273) (by decide) h
theorem t_X5_forgetOldest (hH : ∀ k, k < 8 → nw_st (W.2.1 k) = true) (hQ : ∀ W' : nw_W, W'.1 = W.1 → W'.2.2 = W.2.2 → (∀ k, k < 7 → W'.2.1 k = W.2.1 (k + 1)) → W'.2.1 7 = W.2.1 0 → Qr none (nw_u J 103 0 7, L, W')) : NW sc d_X5_forgetOldest D (0, [some (.inr (.inl (some 103))), none, none], [], (J, L, W), c, sl) Qr Qx := by
  refine b_X5_forgetOldest_0 ?_
  have lp : ∀ (r : Nat) (i : Int) (V : nw_W), 1 ≤ i → i ≤ 8 → (8 - i).toNat = r → V.1 = W.1 → V.2.2 = W.2.2 → (∀ k : Nat, (k : Int) < i - 1 → V.2.1 k = W.2.1 (k + 1)) → (∀ k : Nat, i - 1 ≤ k → V.2.1 k = W.2.1 k) → NW sc d_X5_forgetOldest D (9, [some (.inr (.inl (some 103))), some (.inr (.inl (some (W.2.1 0)))), some (.inl i)], [], (J, L, V), c, sl) Qr Qx := by
    intro r9
    induction r9 using Nat.strongRecOn with
    | ind r9 ih =>
      intro i V i0 i1 hr v1 v2 lo hi
      have hV : ∀ k, k < 8 → nw_st (V.2.1 k) = true := fun k hk => by
        by_cases z : (k : Int) < i - 1
        · rw [lo k z]
          exact hH _ (by omega)
        · rw [hi k (by omega)]
          exact hH _ hk
      refine b_X5_forgetOldest_9 (hH 0 (by decide)) hV ⟨fun q => ?_, fun q => ⟨by omega, by omega, by omega, by omega, ?_⟩⟩
      · have e : i = 8 := by omega
        refine hQ _ v1 v2 (fun k hk => ?_) ?_
        · show (if k = (7 : Int).toNat then W.2.1 0 else V.2.1 k) = W.2.1 (k + 1)
          rw [if_neg (by omega)]
          exact lo k (by omega)
        · show (if 7 = (7 : Int).toNat then W.2.1 0 else V.2.1 7) = W.2.1 0
          exact if_pos rfl
      · refine ih _ (by omega) (i + 1) _ (by omega) (by omega) rfl v1 v2 (fun k hk => ?_) (fun k hk => ?_)
        · show (if k = (i - 1).toNat then V.2.1 i.toNat else V.2.1 k) = W.2.1 (k + 1)
          by_cases e : k = (i - 1).toNat
          · rw [if_pos e, hi _ (by omega), show i.toNat = k + 1 by omega]
          · rw [if_neg e]
            exact lo k (by omega)
        · show (if k = (i - 1).toNat then V.2.1 i.toNat else V.2.1 k) = W.2.1 k
          rw [if_neg (by omega)]
          exact hi k (by omega)
  exact lp _ 1 W (by decide) (by decide) rfl rfl rfl (fun k hk => by omega) (fun _ _ => rfl)
/-- what is remembered after g was -/
def sp_psh (n : Int) (G : Nat → Int → Int) (g : Int → Int) (k : Nat) : Int → Int := if n = 8 then (if k < 7 then G (k + 1) else g) else (if (k : Int) < n then G k else g)
theorem t_X5_remember {n : Int} (hp : sp_hp W) (hn : J 103 0 = n) (n0 : 0 ≤ n ∧ n ≤ 8) (hD : 2 ≤ D) (hQ : ∀ J' L' (W' : nw_W), (∀ x, ¬ (103 ≤ x ∧ x ≤ 296) → J' x = J x) → (∀ x, ¬ (103 ≤ x ∧ x ≤ 296) → L' x = L x) → W'.1 = W.1 → W'.2.2 = W.2.2 → sp_hp W' → J' 103 0 = (if n = 8 then 8 else n + 1) → (∀ B (G : Nat → Int → Int) g, (∀ k : Nat, (k : Int) < n → sp_ok (W.2.1 k) J L (G k) B) → sp_ok 55 J L g B → ∀ k : Nat, (k : Int) < J' 103 0 → sp_ok (W'.2.1 k) J' L' (sp_psh n G g k) B) → Qr none (J', L', W')) : NW sc d_X5_remember D (0, [some (.inr (.inl (some 103))), some (.inr (.inl (some 55)))], [], (J, L, W), c, sl) Qr Qx := by
  have hH : ∀ k, k < 8 → nw_st (W.2.1 k) = true := fun k hk => (hp.1 k hk).1
  refine b_X5_remember_0 hD hH ?_
  rw [hn]
  refine ⟨fun q => ⟨by omega, ?_⟩, fun q => ?_⟩
  · have hm := hp.1 n.toNat (by omega)
    have le := nw_st_le hm.1
    refine t_X8_copies hm.1 (by decide) (by omega) (by decide) (fun J1 L1 x1 l1 ok => b_X5_remember_26 ?_)
    have e1 : J1 103 0 = n := by rw [x1 103 (by omega)]; exact hn
    rw [e1]
    have e2 : nw_u J1 103 0 (n + 1) 103 0 = n + 1 := nw_uS
    refine ⟨by omega, hQ _ L1 W (fun x w => ?_) (fun x w => l1 x (by omega)) rfl rfl hp (by rw [e2, if_neg (by omega)]) (fun B G g h1 h2 k hk => ?_)⟩
    · have w' : ¬ x = 103 := by omega
      rw [nw_uP w']
      exact x1 x (by omega)
    · rw [e2] at hk
      have fr : ∀ a, 105 ≤ a → ∀ x, a ≤ x → x ≤ a + 23 → nw_u J1 103 0 (n + 1) x = J1 x := fun a ha x b d => nw_uP (by omega)
      unfold sp_psh
      rw [if_neg (by omega)]
      by_cases z : (k : Int) < n
      · rw [if_pos z]
        have hk8 := hp.1 k (by omega)
        have ne : ¬ W.2.1 n.toNat = W.2.1 k := fun e => by
          have := hp.2 _ _ (by omega) (by omega) e
          omega
        have ap := nw_stD hm.1 hk8.1 ne
        exact ((h1 k z).keep (fun x a b => x1 x (by omega)) (l1 _ (fun e => ne e.symm))).keep (fr _ hk8.2) rfl
      · rw [if_neg z, show k = n.toNat by omega]
        exact (ok g B h2).keep (fr _ hm.2) rfl
  · have e8 : n = 8 := by omega
    refine t_X5_forgetOldest hH (fun V v1 v2 lo h7 => ?_)
    have hV : ∀ k, k < 8 → nw_st (V.2.1 k) = true ∧ 105 ≤ V.2.1 k := fun k hk => by
      by_cases z : k < 7
      · rw [lo k z]
        exact hp.1 _ (by omega)
      · rw [show k = 7 by omega, h7]
        exact hp.1 0 (by decide)
    have injV : ∀ i j, i < 8 → j < 8 → V.2.1 i = V.2.1 j → i = j := fun i j hi hj e => by
      by_cases zi : i < 7
      · rw [lo i zi] at e
        by_cases zj : j < 7
        · rw [lo j zj] at e
          have := hp.2 _ _ (by omega) (by omega) e
          omega
        · rw [show j = 7 by omega, h7] at e
          have := hp.2 _ _ (by omega) (by omega) e
          omega
      · rw [show i = 7 by omega, h7] at e
        by_cases zj : j < 7
        · rw [lo j zj] at e
          have := hp.2 _ _ (by omega) (by omega) e
          omega
        · omega
    have u7 : nw_u J 103 0 7 103 0 = 7 := nw_uS
    refine b_X5_remember_13 hD (fun k hk => (hV k hk).1) ?_
    rw [u7, show (7 : Int).toNat = 7 from rfl]
    have hm := hV 7 (by decide)
    have le := nw_st_le hm.1
    refine ⟨by omega, t_X8_copies hm.1 (by decide) (by omega) (by decide) (fun J1 L1 x1 l1 ok => b_X5_remember_26 ?_)⟩
    have x1' : ∀ x, ¬ (V.2.1 7 ≤ x ∧ x ≤ V.2.1 7 + 23) → J1 x = nw_u J 103 0 7 x := x1
    have e1 : J1 103 0 = 7 := by rw [x1' 103 (by omega)]; exact u7
    rw [e1]
    have e2 : nw_u J1 103 0 (7 + 1) 103 0 = 7 + 1 := nw_uS
    refine ⟨by omega, hQ _ L1 V (fun x w => ?_) (fun x w => l1 x (by omega)) v1 v2 ⟨hV, injV⟩ (by rw [e2, if_pos e8]; rfl) (fun B G g h1 h2 k hk => ?_)⟩
    · have w' : ¬ x = 103 := by omega
      rw [nw_uP w', x1' x (by omega), nw_uP w']
    · rw [e2] at hk
      have fr : ∀ a, 105 ≤ a → ∀ x, a ≤ x → x ≤ a + 23 → nw_u J1 103 0 (7 + 1) x = J1 x := fun a ha x b d => nw_uP (by omega)
      unfold sp_psh
      rw [if_pos e8]
      by_cases z : k < 7
      · rw [if_pos z]
        have hk8 := hV k (by omega)
        have ne : ¬ V.2.1 7 = V.2.1 k := fun e => by
          have := injV _ _ (by omega) (by omega) e
          omega
        have ap := nw_stD hm.1 hk8.1 ne
        have h1' := h1 (k + 1) (by omega)
        rw [← lo k z] at h1'
        exact (h1'.keep (J' := J1) (L' := L1) (fun x a b => by rw [x1' x (by omega)]; exact nw_uP (by omega)) (l1 _ (fun e => ne e.symm))).keep (fr _ hk8.2) rfl
      · rw [if_neg z, show k = 7 by omega]
        exact (ok g B (h2.keep (fun x a b => nw_uP (by omega)) rfl)).keep (fr _ hm.2) rfl
theorem t_X5_takeBack {n : Int} (hp : sp_hp W) (hn : J 103 0 = n) (n0 : 0 < n ∧ n ≤ 8) (hD : 2 ≤ D) (hQ : ∀ J' L', (∀ x, ¬ ((2 ≤ x ∧ x ≤ 25) ∨ x = 103) → J' x = J x) → (∀ x, ¬ x = 2 → L' x = L x) → J' 103 0 = n - 1 → (∀ g B, sp_ok (W.2.1 (n - 1).toNat) J L g B → sp_ok 2 J' L' g B) → Qr none (J', L', W)) : NW sc d_X5_takeBack D (0, [some (.inr (.inl (some 103))), some (.inr (.inl (some 2)))], [], (J, L, W), c, sl) Qr Qx := by
  refine b_X5_takeBack_0 hD ?_
  rw [hn]
  refine ⟨fun q => by omega, fun q => ⟨by omega, by omega, ?_⟩⟩
  have hm := hp.1 (n - 1).toNat (by omega)
  refine t_X8_copies (by decide) hm.1 (by omega) (by decide) (fun J1 L1 x1 l1 ok => b_X5_takeBack_30 (hQ J1 L1 (fun x w => ?_) l1 ?_ (fun g B h => ok g B (h.keep (fun x a b => nw_uP (by omega)) rfl))))
  · have w' : ¬ x = 103 := by omega
    rw [x1 x (by omega), nw_uP w']
  · rw [x1 103 (by omega)]
    exact nw_uS
/-- a word kept by the model -/
def sp_hw (H : Int → Int) (k : Nat) : Int → Int := fun s => H (161 * k + s)
end

