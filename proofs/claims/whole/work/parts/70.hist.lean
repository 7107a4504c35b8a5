/-! history -/
section
variable {sc : Nat × (Nat → Int32)} {D : Nat} {J L : Nat → Int → Int} {W : nw_W} {c sl : Nat} {Qr : nw_QR} {Qx : nw_QX} {g : Int → Int} {B : Int}
/-- the state at place a is the word g -/
def sp_ok (a : Nat) (J L : Nat → Int → Int) (g : Int → Int) (B : Int) : Prop := RC (sp_sh a J) (sp_sh a L) g ∧ Inv g B ∧ sp_fut g
theorem sp_ok.keep {a : Nat} {J J' L L' : Nat → Int → Int} {g : Int → Int} {B : Int} (h : sp_ok a J L g B) (e : ∀ x, a ≤ x → x ≤ a + 23 → J' x = J x) (el : L' a = L a) : sp_ok a J' L' g B := ⟨h.1.shK h.2.1 e el, h.2⟩
theorem sp_ok.ew {a : Nat} {J L : Nat → Int → Int} {g g' : Int → Int} {B : Int} (h : sp_ok a J L g B) (e : sp_ew g g') : sp_ok a J L g' B := ⟨h.1.ew h.2.1 e, h.2.1.ew e, fut_ew h.2.2 h.2.1 e⟩
theorem Inv.up {g : Int → Int} {B B' : Int} (h : Inv g B) (hB : B ≤ B') (hB' : B' ≤ 4000000) : Inv g B' := by
  have b := h.bd
  have h0 := h.ho
  have h5 := h.nx
  have h6 := h.fa
  have h7 := h.re
  have h8 := h.pa
  have h9 := h.sn
  exact ⟨by omega, by omega, h.cr, h.ch, h.fe, h.mo, by omega, by omega, by omega, by omega, by omega, h.dep, h.cha, h.uni, h.fer, h.moo, h.car, h.zer⟩
theorem sp_ok.up {a : Nat} {J L : Nat → Int → Int} {g : Int → Int} {B B' : Int} (h : sp_ok a J L g B) (hB : B ≤ B') (hB' : B' ≤ 4000000) : sp_ok a J L g B' := ⟨h.1, h.2.1.up hB hB', h.2.2⟩
theorem t_X8_copies {p q : Nat} (hp : nw_st p = true) (hq : nw_st q = true) (h : ¬ p = q) (hD : 1 ≤ D) (hQ : ∀ J' L', (∀ x, ¬ (p ≤ x ∧ x ≤ p + 23) → J' x = J x) → (∀ x, ¬ x = p → L' x = L x) → (∀ g B, sp_ok q J L g B → sp_ok p J' L' g B) → Qr none (J', L', W)) : NW sc d_X8_copyFrom D (0, [some (.inr (.inl (some (p)))), some (.inr (.inl (some (q))))], [], (J, L, W), c, sl) Qr Qx :=
  t_X8_copyFrom hp hq h hD (fun J' L' x l r => hQ J' L' x l (fun g B k => ⟨r g B k.2.1 k.1, k.2⟩))
/-- the states of history, each once -/
def sp_hp (W : nw_W) : Prop := (∀ k, k < 8 → nw_st (W.2.1 k) = true ∧ 105 ≤ W.2.1 k) ∧ ∀ i j, i < 8 → j < 8 → W.2.1 i = W.2.1 j → i = j
theorem nw_st_le {a : Nat} (h : nw_st a = true) : a ≤ 273 := nw_stC (P := fun a => a ≤ 273) (by decide) h
theorem t_X5_forgetOldest (hH : ∀ k, k < 8 → nw_st (W.2.1 k) = true) (hQ : ∀ W' : nw_W, W'.1 = W.1 → W'.2.2 = W.2.2 → (∀ k, k < 7 → W'.2.1 k = W.2.1 (k + 1)) → W'.2.1 7 = W.2.1 0 → Qr none (nw_u J 103 0 7, L, W')) : NW sc d_X5_forgetOldest D (0, [some (.inr (.inl (some 103))), none, none], [], (J, L, W), c, sl) Qr Qx := by
  refine b_X5_forgetOldest_0 ?_
  have lp : ∀ (r : Nat) (i : Int) (V : nw_W), 1 ≤ i → i ≤ 8 → (8 - i).toNat = r → V.1 = W.1 → V.2.2 = W.2.2 → (∀ k : Nat, (k : Int) < i - 1 → V.2.1 k = W.2.1 (k + 1)) → (∀ k : Nat, i - 1 ≤ k → V.2.1 k = W.2.1 k) → NW sc d_X5_forgetOldest D (9, [some (.inr (.inl (some 103))), some (.inr (.inl (some (W.2.1 0)))), some (.inl i)], [], (J, L, V), c, sl) Qr Qx := by
    intro r9
    induction r9 using Nat.strongRecOn with
    | ind r9 ih =>
      intro i V i0 i1 hr v1 v2 lo hi
      have hV : ∀ k, k < 8 → nw_st (V.2.1 k) = true := fun k hk => by
        by_cases z : (k : Int) < i - 1
        · rw [lo k z]
          exact hH _ (by omega)
        · rw [hi k (by omega)]
          exact hH _ hk
      refine b_X5_forgetOldest_9 (hH 0 (by decide)) hV ⟨fun q => ?_, fun q => ⟨by omega, by omega, by omega, by omega, ?_⟩⟩
      · have e : i = 8 := by omega
        refine hQ _ v1 v2 (fun k hk => ?_) ?_
        · show (if k = (7 : Int).toNat then W.2.1 0 else V.2.1 k) = W.2.1 (k + 1)
          rw [if_neg (by omega)]
          exact lo k (by omega)
        · show (if 7 = (7 : Int).toNat then W.2.1 0 else V.2.1 7) = W.2.1 0
          exact if_pos rfl
      · refine ih _ (by omega) (i + 1) _ (by omega) (by omega) rfl v1 v2 (fun k hk => ?_) (fun k hk => ?_)
        · show (if k = (i - 1).toNat then V.2.1 i.toNat else V.2.1 k) = W.2.1 (k + 1)
          by_cases e : k = (i - 1).toNat
          · rw [if_pos e, hi _ (by omega), show i.toNat = k + 1 by omega]
          · rw [if_neg e]
            exact lo k (by omega)
        · show (if k = (i - 1).toNat then V.2.1 i.toNat else V.2.1 k) = W.2.1 k
          rw [if_neg (by omega)]
          exact hi k (by omega)
  exact lp _ 1 W (by decide) (by decide) rfl rfl rfl (fun k hk => by omega) (fun _ _ => rfl)
/-- what is remembered after g was -/
def sp_psh (n : Int) (G : Nat → Int → Int) (g : Int → Int) (k : Nat) : Int → Int := if n = 8 then (if k < 7 then G (k + 1) else g) else (if (k : Int) < n then G k else g)
theorem t_X5_remember {n : Int} (hp : sp_hp W) (hn : J 103 0 = n) (n0 : 0 ≤ n ∧ n ≤ 8) (hD : 2 ≤ D) (hQ : ∀ J' L' (W' : nw_W), (∀ x, ¬ (103 ≤ x ∧ x ≤ 296) → J' x = J x) → (∀ x, ¬ (103 ≤ x ∧ x ≤ 296) → L' x = L x) → W'.1 = W.1 → W'.2.2 = W.2.2 → sp_hp W' → J' 103 0 = (if n = 8 then 8 else n + 1) → (∀ B (G : Nat → Int → Int) g, (∀ k : Nat, (k : Int) < n → sp_ok (W.2.1 k) J L (G k) B) → sp_ok 55 J L g B → ∀ k : Nat, (k : Int) < J' 103 0 → sp_ok (W'.2.1 k) J' L' (sp_psh n G g k) B) → Qr none (J', L', W')) : NW sc d_X5_remember D (0, [some (.inr (.inl (some 103))), some (.inr (.inl (some 55)))], [], (J, L, W), c, sl) Qr Qx := by
  have hH : ∀ k, k < 8 → nw_st (W.2.1 k) = true := fun k hk => (hp.1 k hk).1
  refine b_X5_remember_0 hD hH ?_
  rw [hn]
  refine ⟨fun q => ⟨by omega, ?_⟩, fun q => ?_⟩
  · have hm := hp.1 n.toNat (by omega)
    have le := nw_st_le hm.1
    refine t_X8_copies hm.1 (by decide) (by omega) (by decide) (fun J1 L1 x1 l1 ok => b_X5_remember_26 ?_)
    have e1 : J1 103 0 = n := by rw [x1 103 (by omega)]; exact hn
    rw [e1]
    have e2 : nw_u J1 103 0 (n + 1) 103 0 = n + 1 := nw_uS
    refine ⟨by omega, hQ _ L1 W (fun x w => ?_) (fun x w => l1 x (by omega)) rfl rfl hp (by rw [e2, if_neg (by omega)]) (fun B G g h1 h2 k hk => ?_)⟩
    · have w' : ¬ x = 103 := by omega
      rw [nw_uP w']
      exact x1 x (by omega)
    · rw [e2] at hk
      have fr : ∀ a, 105 ≤ a → ∀ x, a ≤ x → x ≤ a + 23 → nw_u J1 103 0 (n + 1) x = J1 x := fun a ha x b d => nw_uP (by omega)
      unfold sp_psh
      rw [if_neg (by omega)]
      by_cases z : (k : Int) < n
      · rw [if_pos z]
        have hk8 := hp.1 k (by omega)
        have ne : ¬ W.2.1 n.toNat = W.2.1 k := fun e => by
          have := hp.2 _ _ (by omega) (by omega) e
          omega
        have ap := nw_stD hm.1 hk8.1 ne
        exact ((h1 k z).keep (fun x a b => x1 x (by omega)) (l1 _ (fun e => ne e.symm))).keep (fr _ hk8.2) rfl
      · rw [if_neg z, show k = n.toNat by omega]
        exact (ok g B h2).keep (fr _ hm.2) rfl
  · have e8 : n = 8 := by omega
    refine t_X5_forgetOldest hH (fun V v1 v2 lo h7 => ?_)
    have hV : ∀ k, k < 8 → nw_st (V.2.1 k) = true ∧ 105 ≤ V.2.1 k := fun k hk => by
      by_cases z : k < 7
      · rw [lo k z]
        exact hp.1 _ (by omega)
      · rw [show k = 7 by omega, h7]
        exact hp.1 0 (by decide)
    have injV : ∀ i j, i < 8 → j < 8 → V.2.1 i = V.2.1 j → i = j := fun i j hi hj e => by
      by_cases zi : i < 7
      · rw [lo i zi] at e
        by_cases zj : j < 7
        · rw [lo j zj] at e
          have := hp.2 _ _ (by omega) (by omega) e
          omega
        · rw [show j = 7 by omega, h7] at e
          have := hp.2 _ _ (by omega) (by omega) e
          omega
      · rw [show i = 7 by omega, h7] at e
        by_cases zj : j < 7
        · rw [lo j zj] at e
          have := hp.2 _ _ (by omega) (by omega) e
          omega
        · omega
    have u7 : nw_u J 103 0 7 103 0 = 7 := nw_uS
    refine b_X5_remember_13 hD (fun k hk => (hV k hk).1) ?_
    rw [u7, show (7 : Int).toNat = 7 from rfl]
    have hm := hV 7 (by decide)
    have le := nw_st_le hm.1
    refine ⟨by omega, t_X8_copies hm.1 (by decide) (by omega) (by decide) (fun J1 L1 x1 l1 ok => b_X5_remember_26 ?_)⟩
    have x1' : ∀ x, ¬ (V.2.1 7 ≤ x ∧ x ≤ V.2.1 7 + 23) → J1 x = nw_u J 103 0 7 x := x1
    have e1 : J1 103 0 = 7 := by rw [x1' 103 (by omega)]; exact u7
    rw [e1]
    have e2 : nw_u J1 103 0 (7 + 1) 103 0 = 7 + 1 := nw_uS
    refine ⟨by omega, hQ _ L1 V (fun x w => ?_) (fun x w => l1 x (by omega)) v1 v2 ⟨hV, injV⟩ (by rw [e2, if_pos e8]; rfl) (fun B G g h1 h2 k hk => ?_)⟩
    · have w' : ¬ x = 103 := by omega
      rw [nw_uP w', x1' x (by omega), nw_uP w']
    · rw [e2] at hk
      have fr : ∀ a, 105 ≤ a → ∀ x, a ≤ x → x ≤ a + 23 → nw_u J1 103 0 (7 + 1) x = J1 x := fun a ha x b d => nw_uP (by omega)
      unfold sp_psh
      rw [if_pos e8]
      by_cases z : k < 7
      · rw [if_pos z]
        have hk8 := hV k (by omega)
        have ne : ¬ V.2.1 7 = V.2.1 k := fun e => by
          have := injV _ _ (by omega) (by omega) e
          omega
        have ap := nw_stD hm.1 hk8.1 ne
        have h1' := h1 (k + 1) (by omega)
        rw [← lo k z] at h1'
        exact (h1'.keep (J' := J1) (L' := L1) (fun x a b => by rw [x1' x (by omega)]; exact nw_uP (by omega)) (l1 _ (fun e => ne e.symm))).keep (fr _ hk8.2) rfl
      · rw [if_neg z, show k = 7 by omega]
        exact (ok g B (h2.keep (fun x a b => nw_uP (by omega)) rfl)).keep (fr _ hm.2) rfl
theorem t_X5_takeBack {n : Int} (hp : sp_hp W) (hn : J 103 0 = n) (n0 : 0 < n ∧ n ≤ 8) (hD : 2 ≤ D) (hQ : ∀ J' L', (∀ x, ¬ ((2 ≤ x ∧ x ≤ 25) ∨ x = 103) → J' x = J x) → (∀ x, ¬ x = 2 → L' x = L x) → J' 103 0 = n - 1 → (∀ g B, sp_ok (W.2.1 (n - 1).toNat) J L g B → sp_ok 2 J' L' g B) → Qr none (J', L', W)) : NW sc d_X5_takeBack D (0, [some (.inr (.inl (some 103))), some (.inr (.inl (some 2)))], [], (J, L, W), c, sl) Qr Qx := by
  refine b_X5_takeBack_0 hD ?_
  rw [hn]
  refine ⟨fun q => by omega, fun q => ⟨by omega, by omega, ?_⟩⟩
  have hm := hp.1 (n - 1).toNat (by omega)
  refine t_X8_copies (by decide) hm.1 (by omega) (by decide) (fun J1 L1 x1 l1 ok => b_X5_takeBack_30 (hQ J1 L1 (fun x w => ?_) l1 ?_ (fun g B h => ok g B (h.keep (fun x a b => nw_uP (by omega)) rfl))))
  · have w' : ¬ x = 103 := by omega
    rw [x1 x (by omega), nw_uP w']
  · rw [x1 103 (by omega)]
    exact nw_uS
/-- a word kept by the model -/
def sp_hw (H : Int → Int) (k : Nat) : Int → Int := fun s => H (161 * k + s)
theorem t_X12_begin (hD : 1 ≤ D) (hQ : ∀ J', (∀ x, ¬ x = 305 → J' x = J x) → sp_ew (J 304) (J' 305) → Qr none (J', L, W)) : NW sc d_X12_begin D (0, [some (.inr (.inl (some 303)))], [], (J, L, W), c, sl) Qr Qx :=
  b_X12_begin_0 hD (t_X12_copy_304_305 (fun J' x e => b_X12_begin_13 (hQ J' x e)))
theorem t_X12_keptF {v : Int} (h : ¬ J 303 13 = 0) (hD : 1 ≤ D) (hQ : ∀ J', (∀ x, ¬ x = 304 → J' x = J x) → sp_ew (J 305) (J' 304) → Qr (some (.inl 0)) (J', L, W)) : NW sc d_X12_kept D (0, [some (.inr (.inl (some 303))), some (.inl v), none], [], (J, L, W), c, sl) Qr Qx :=
  b_X12_kept_0 hD ⟨fun z => absurd z h, fun _ => t_X12_copy_305_304 (fun J' x e => b_X12_kept_20 (hQ J' x e))⟩
theorem t_X12_keptS {v n : Int} (h : J 303 13 = 0) (hn : J 303 3 = n) (n0 : 0 ≤ n ∧ n ≤ 8) (hD : 1 ≤ D) (hQ : ∀ J', (∀ x, ¬ (x = 303 ∨ x = 306) → J' x = J x) → (∀ k, ¬ k = 3 → J' 303 k = J 303 k) → J' 303 3 = (if n = 8 then 8 else n + 1) → (∀ k : Nat, (k : Int) < J' 303 3 → sp_ew (sp_psh n (sp_hw (J 306)) (J 305) k) (sp_hw (J' 306) k)) → Qr (some (.inl v)) (J', L, W)) : NW sc d_X12_kept D (0, [some (.inr (.inl (some 303))), some (.inl v), none], [], (J, L, W), c, sl) Qr Qx := by
  have lp : n = 8 → ∀ (r : Nat) (i : Int) (J1 : Nat → Int → Int), 0 ≤ i → i ≤ 1127 → (1127 - i).toNat = r → (∀ x, ¬ x = 306 → J1 x = J x) → (∀ s, 0 ≤ s → s < i → J1 306 s = J 306 (s + 161)) → (∀ s, i ≤ s → J1 306 s = J 306 s) → NW sc d_X12_kept D (33, [some (.inr (.inl (some 303))), some (.inl v), some (.inl i)], [], (J1, L, W), c, sl) Qr Qx := by
    intro q
    intro r9
    induction r9 using Nat.strongRecOn with
    | ind r9 ih =>
      intro i J1 i0 i1 hr x1 lo hi
      refine b_X12_kept_33 hD ⟨fun y => ?_, fun y => ⟨by omega, by omega, by omega, by omega, ?_⟩⟩
      · have e : i = 1127 := by omega
        have e3 : J1 303 3 = 8 := by rw [x1 303 (by decide)]; omega
        rw [e3]
        refine ⟨by omega, by omega, t_X12_copy_305_306 (by omega) (fun J2 x2 lo2 hi2 => b_X12_kept_92 ?_)⟩
        have u3 : ∀ x, ¬ x = 303 → nw_u J1 303 3 (8 - 1) x = J1 x := fun x w => nw_uP w
        have e1 : J2 303 3 = 8 - 1 := by rw [x2 303 (by decide)]; exact nw_uS
        rw [e1]
        have e2 : nw_u J2 303 3 (8 - 1 + 1) 303 3 = 8 - 1 + 1 := nw_uS
        have e6 : nw_u J2 303 3 (8 - 1 + 1) 306 = J2 306 := nw_uP (by decide)
        refine ⟨by omega, hQ _ (fun x w => ?_) (fun k w => ?_) (by rw [e2, if_pos q]; rfl) (fun k hk s s0 s1 => ?_)⟩
        · have w' : ¬ x = 303 := by omega
          rw [nw_uP w', x2 x (by omega), u3 x w']
          exact x1 x (by omega)
        · rw [nw_uI w, x2 303 (by decide), nw_uI w, x1 303 (by decide)]
        · rw [e2] at hk
          unfold sp_psh sp_hw
          rw [if_pos q, e6]
          by_cases z : k < 7
          · rw [if_pos z, hi2 _ (by omega), u3 306 (by decide), lo _ (by omega) (by omega)]
            congr 1
            omega
          · rw [if_neg z, show 161 * (k : Int) + s = (8 - 1) * 161 + s by omega, lo2 s s0 s1, u3 305 (by decide), x1 305 (by decide)]
      · refine ih _ (by omega) (i + 1) _ (by omega) (by omega) rfl (fun x w => by rw [nw_uP w]; exact x1 x w) (fun s a b => ?_) (fun s a => ?_)
        · by_cases e : s = i
          · rw [e, nw_uS]
            exact hi _ (by omega)
          · rw [nw_uI e]
            exact lo s a (by omega)
        · rw [nw_uI (by omega)]
          exact hi s (by omega)
  refine b_X12_kept_0 hD ⟨fun _ => ?_, fun z => absurd h z⟩
  rw [hn]
  refine ⟨fun q => ⟨by omega, ?_⟩, fun q => ?_⟩
  · refine t_X12_copy_305_306 (by omega) (fun J1 x1 lo hi => b_X12_kept_92 ?_)
    have e1 : J1 303 3 = n := by rw [x1 303 (by decide)]; exact hn
    rw [e1]
    have e2 : nw_u J1 303 3 (n + 1) 303 3 = n + 1 := nw_uS
    have e6 : nw_u J1 303 3 (n + 1) 306 = J1 306 := nw_uP (by decide)
    refine ⟨by omega, hQ _ (fun x w => ?_) (fun k w => ?_) (by rw [e2, if_neg q]) (fun k hk s s0 s1 => ?_)⟩
    · have w' : ¬ x = 303 := by omega
      rw [nw_uP w']
      exact x1 x (by omega)
    · rw [nw_uI w, x1 303 (by decide)]
    · rw [e2] at hk
      unfold sp_psh sp_hw
      rw [if_neg q, e6]
      by_cases z : (k : Int) < n
      · rw [if_pos z, hi _ (by omega)]
      · rw [if_neg z, show 161 * (k : Int) + s = n * 161 + s by omega]
        exact lo s s0 s1
  · exact lp q _ 0 J (by decide) (by decide) rfl (fun _ _ => rfl) (fun s a b => by omega) (fun _ _ => rfl)
theorem t_X12_undo {n : Int} (hn : J 303 3 = n) (n0 : 0 ≤ n ∧ n ≤ 8) (hD : 1 ≤ D) (h0 : n = 0 → Qr (some (.inl 0)) (nw_u J 303 13 1, L, W)) (hQ : 0 < n → ∀ J', (∀ x, ¬ (x = 303 ∨ x = 304) → J' x = J x) → (∀ k, ¬ k = 3 → ¬ k = 13 → J' 303 k = J 303 k) → J' 303 3 = n - 1 → J' 303 13 = 0 → sp_ew (sp_hw (J 306) (n - 1).toNat) (J' 304) → Qr (some (.inl (n - 1))) (J', L, W)) : NW sc d_X12_undo D (0, [some (.inr (.inl (some 303)))], [], (J, L, W), c, sl) Qr Qx := by
  refine b_X12_undo_0 hD ?_
  rw [hn]
  refine ⟨fun q => ⟨by omega, by omega, ?_⟩, h0⟩
  refine t_X12_copy_306_304 (by omega) (fun J1 x1 lo => b_X12_undo_43 hD ?_)
  have u : ∀ x, ¬ x = 303 → nw_u J 303 3 (n - 1) x = J x := fun x w => nw_uP w
  have e1 : J1 303 3 = n - 1 := by rw [x1 303 (by decide)]; exact nw_uS
  rw [e1]
  refine hQ (by omega) _ (fun x w => ?_) (fun k a b => ?_) ?_ nw_uS (fun s a b => ?_)
  · have w' : ¬ x = 303 := by omega
    rw [nw_uP w', x1 x (by omega), u x w']
  · rw [nw_uI b, x1 303 (by decide), nw_uI a]
  · rw [nw_uI (by decide)]
    exact e1
  · rw [nw_uP (by decide), lo s a b, u 306 (by decide)]
    unfold sp_hw
    congr 1
    omega
end
