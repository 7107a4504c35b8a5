/-! the line in the class: its builder -/
section
variable {sc : Nat × (Nat → Int32)} {D : Nat} {J L : Nat → Int → Int} {W : nw_W} {c sl : Nat} {Qr : nw_QR} {Qx : nw_QX} {g : Int → Int} {B : Int}
theorem t_J7_copyOf {a m : Nat} {k : Int} (hk : nw_K (J, L, W) a (24, m)) (hm : (m : Int) < k ∧ 0 ≤ k ∧ k < 2000) (ha : a < W.2.2.2.2 ∨ a < 303) (hn : 303 ≤ W.2.2.2.2 ∧ W.2.2.2.2 < 1000000) (hb : ∀ i : Int, 0 ≤ i → i < m → -128 ≤ J a i ∧ J a i < 128) (hD : 1 ≤ D) (hc : 1 ≤ c) (hs : k.toNat ≤ sl) (hQ : ∀ J', (∀ x, ¬ x = W.2.2.2.2 → J' x = J x) → (∀ i : Int, 0 ≤ i → i < m → J' W.2.2.2.2 i = J a i) → (∀ i : Int, m ≤ i → J' W.2.2.2.2 i = 0) → Qr (some (.inr (.inl (some W.2.2.2.2)))) (J', nw_z L W.2.2.2.2, nw_mW W k.toNat)) : NW sc d_J7_copyOf_9075b D (0, [some (.inr (.inl (some (a)))), some (.inl k), none], [], (J, L, W), c, sl) Qr Qx := by
  have hne : ¬ a = W.2.2.2.2 := by
    intro e
    rcases ha with h | h
    · omega
    · omega
  refine nw_iload_n l_J7_copyOf_9075b_0 1 rfl rfl ?_
  refine nw_aload_n l_J7_copyOf_9075b_1 2 rfl rfl ?_
  refine nw_alenX l_J7_copyOf_9075b_2 3 rfl hk ⟨by decide, by decide, by omega⟩ ?_
  refine nw_ic_ne l_J7_copyOf_9075b_3 6 rfl (fun _ => ?_) (fun q => by omega)
  refine nw_iload_n l_J7_copyOf_9075b_14 15 rfl rfl ?_
  refine nw_newBi l_J7_copyOf_9075b_15 17 rfl hn.1 ⟨by omega, by omega⟩ hc hs ?_
  refine nw_astore_n l_J7_copyOf_9075b_17 18 rfl rfl (ls' := [some (.inr (.inl (some a))), some (.inl k), some (.inr (.inl (some W.2.2.2.2)))]) rfl ?_
  refine nw_aload_n l_J7_copyOf_9075b_18 19 rfl rfl ?_
  refine nw_iconst (len := 1) l_J7_copyOf_9075b_19 20 rfl (v := 0) (by decide) ?_
  refine nw_aload_n l_J7_copyOf_9075b_20 21 rfl rfl ?_
  refine nw_iconst (len := 1) l_J7_copyOf_9075b_21 22 rfl (v := 0) (by decide) ?_
  refine nw_aload_n l_J7_copyOf_9075b_22 23 rfl rfl ?_
  have hk2 : nw_K (nw_z J W.2.2.2.2, nw_z L W.2.2.2.2, nw_mW W k.toNat) a (24, m) := nw_mW_K hk ha hn.1
  have hk3 : nw_K (nw_z J W.2.2.2.2, nw_z L W.2.2.2.2, nw_mW W k.toNat) W.2.2.2.2 (24, k.toNat) := nw_mW_Kn hn
  refine nw_alenX l_J7_copyOf_9075b_23 24 rfl hk2 ⟨by decide, by decide, by omega⟩ ?_
  refine nw_iload_n l_J7_copyOf_9075b_24 25 rfl rfl ?_
  refine nw_call0 0 0 l_J7_copyOf_9075b_25 rfl rfl g_J9_min_7cf53 (Nat.lt_of_lt_of_le (by decide) hD) rfl True.intro (ls' := [some (.inl (m : Int)), some (.inl k)]) rfl (st' := [.inl 0, .inr (.inl (some W.2.2.2.2)), .inl 0, .inr (.inl (some a))]) rfl 28 rfl ?_
  refine t_min (fun y y1 y2 y3 => ?_)
  have ey : y = m := by omega
  subst ey
  refine nw_acopyX l_J7_copyOf_9075b_28 31 rfl (by decide) (Or.inr rfl) hk2.kd hk3.kd (fun _ i i0 i1 => ?_) ⟨by decide, by decide, by omega, by omega, by omega⟩ ?_
  · show -128 ≤ nw_z J W.2.2.2.2 a (0 + i) ∧ nw_z J W.2.2.2.2 a (0 + i) < 128
    unfold nw_z
    rw [if_neg hne, Int.zero_add]
    exact hb i i0 i1
  refine nw_aload_n l_J7_copyOf_9075b_31 32 rfl rfl ?_
  refine nw_areturn l_J7_copyOf_9075b_32 rfl ?_
  refine hQ _ (fun x w => ?_) (fun i i0 i1 => ?_) (fun i i0 => ?_)
  · show nw_cp (nw_z J W.2.2.2.2) a W.2.2.2.2 0 0 m x = J x
    rw [nw_cpP w]
    unfold nw_z
    funext k9
    rw [if_neg w]
  · show nw_cp (nw_z J W.2.2.2.2) a W.2.2.2.2 0 0 m W.2.2.2.2 i = J a i
    rw [nw_cpI ⟨i0, by omega⟩]
    unfold nw_z
    rw [if_neg hne, show 0 + (i - 0) = i by omega]
  · show nw_cp (nw_z J W.2.2.2.2) a W.2.2.2.2 0 0 m W.2.2.2.2 i = 0
    unfold nw_cp nw_z
    rw [if_pos rfl, if_neg (by omega), if_pos rfl]
/-- the builder holds n letters l in m bytes -/
def sp_sb (J : Nat → Int → Int) (W : nw_W) (n : Int) (l : Int → Int) (m : Nat) : Prop := (J 301 1 = 0 ∧ J 301 3 = n ∧ 0 ≤ n ∧ n ≤ m) ∧ (m = 16 ∨ m = 34 ∨ m = 70 ∨ m = 142) ∧ ((W.2.2.1 = 302 ∨ 303 ≤ W.2.2.1) ∧ W.2.2.1 < W.2.2.2.2) ∧ 303 ≤ W.2.2.2.2 ∧ nw_K (J, J, W) W.2.2.1 (24, m) ∧ (∀ k, 0 ≤ k → k < n → J W.2.2.1 k = l k) ∧ ∀ k : Int, 0 ≤ k → k < m → -128 ≤ J W.2.2.1 k ∧ J W.2.2.1 k < 128
/-- what the builder's work leaves as it was -/
def sp_lf (J J' : Nat → Int → Int) : Prop := ∀ x, (x < 301 ∨ (302 < x ∧ x < 303)) → J' x = J x
def sp_wf (W W' : nw_W) (k : Nat) : Prop := (∀ x, x < 303 → W'.1 x = W.1 x) ∧ (W'.2.1 = W.2.1 ∧ (W'.2.2.1 = W.2.2.1 ∨ W.2.2.2.2 ≤ W'.2.2.1)) ∧ W.2.2.2.2 ≤ W'.2.2.2.2 ∧ W'.2.2.2.2 ≤ W.2.2.2.2 + k
theorem sp_wf.refl {W : nw_W} {k : Nat} : sp_wf W W k := ⟨fun _ _ => rfl, ⟨rfl, Or.inl rfl⟩, Nat.le_refl _, Nat.le_add_right _ _⟩
theorem sp_wf.trans {W V U : nw_W} {a b : Nat} (h : sp_wf W V a) (k : sp_wf V U b) : sp_wf W U (a + b) := ⟨fun x w => (k.1 x w).trans (h.1 x w), ⟨k.2.1.1.trans h.2.1.1, k.2.1.2.elim (fun e => h.2.1.2.elim (fun e' => Or.inl (e.trans e')) (fun e' => Or.inr (by rw [e]; exact e'))) (fun e => Or.inr (Nat.le_trans h.2.2.1 e))⟩, Nat.le_trans h.2.2.1 k.2.2.1, by have := h.2.2.2; have := k.2.2.2; omega⟩
theorem sp_lf.trans {J J1 J2 : Nat → Int → Int} (h : sp_lf J J1) (k : sp_lf J1 J2) : sp_lf J J2 := fun x w => (k x w).trans (h x w)
theorem sp_lf.refl {J : Nat → Int → Int} : sp_lf J J := fun _ _ => rfl
theorem t_ensure {x n : Int} {l : Int → Int} {m : Nat} (h : sp_sb J W n l m) (hx : x ≤ n + 11 ∧ 0 ≤ x ∧ x ≤ 142) (hn : W.2.2.2.2 < 1000000) (hD : 8 ≤ D) (hc : 1 ≤ c) (hs : 150 ≤ sl) (hQ : ∀ J' L' W' m', sp_sb J' W' n l m' → x ≤ (m' : Int) → sp_lf J J' → (∀ y, y < 303 → L' y = L y) → sp_wf W W' 1 → Qr none (J', L', W')) : NW sc d_J5_ensureCapacityInternal_d00df D (0, [some (.inr (.inl (some 301))), some (.inl x), none], [], (J, L, W), c, sl) Qr Qx := by
  have h' := h
  obtain ⟨⟨h1, h3, h0, hm⟩, hmm, ⟨hv, hvn⟩, hn3, hk, hl, hb⟩ := h
  refine b_J5_ensureCapacityInternal_d00df_0 hD h1 (m := m) hk (by omega) ⟨by omega, fun q => hQ J L W m h' (by omega) sp_lf.refl (fun _ _ => rfl) sp_wf.refl, fun q => ?_⟩
  refine b_J5_newCapacity_0f7a4_0 (by decide) h1 (m := m) hk (by omega) (by omega) (by omega) ⟨by omega, by omega, fun _ => ⟨by omega, ?_⟩, fun z => by omega⟩
  refine b_J5_ensureCapacityInternal_d00df_27 hD hc hs h1 ?_
  refine t_J7_copyOf (k := (m : Int) + ((m : Int) + 2)) hk (by omega) (Or.inl hvn) ⟨hn3, hn⟩ hb (by decide) (by decide) (by omega) (fun J1 x1 y1 z1 => b_J5_ensureCapacityInternal_d00df_35 ?_)
  have eq : ((m : Int) + ((m : Int) + 2)).toNat = m + (m + 2) := by omega
  rw [eq]
  have hk2 : nw_K (J1, J1, nw_sW (nw_mW W (m + (m + 2))) W.2.2.2.2) W.2.2.2.2 (24, m + (m + 2)) := by
    have := nw_mW_Kn (J' := J1) (L' := J1) (W := W) (m := m + (m + 2)) ⟨hn3, hn⟩
    exact this
  refine hQ J1 _ _ (m + (m + 2)) ⟨⟨by rw [x1 301 (by omega)]; exact h1, by rw [x1 301 (by omega)]; exact h3, h0, by omega⟩, by omega, ⟨Or.inr hn3, Nat.lt_succ_self _⟩, Nat.le_succ_of_le hn3, hk2, fun k k0 k1 => ?_, fun k k0 k1 => ?_⟩ (by omega) (fun y w => x1 y (by omega)) (fun y w => ?_) ⟨fun y w => ?_, ⟨rfl, Or.inr (Nat.le_refl _)⟩, Nat.le_succ _, Nat.le_refl _⟩
  · show J1 W.2.2.2.2 k = l k
    rw [y1 k k0 (by omega)]
    exact hl k k0 k1
  · show -128 ≤ J1 W.2.2.2.2 k ∧ J1 W.2.2.2.2 k < 128
    by_cases z : k < m
    · rw [y1 k k0 z]
      exact hb k k0 z
    · rw [z1 k (by omega)]
      exact ⟨by decide, by decide⟩
  · unfold nw_z
    funext k
    rw [if_neg (by omega)]
  · show nw_zd W.1 W.2.2.2.2 y = W.1 y
    unfold nw_zd
    funext k
    rw [if_neg (by omega)]
theorem t_appendC {x n : Int} {l : Int → Int} {m : Nat} (h : sp_sb J W n l m) (hx : 0 ≤ x ∧ x < 128) (hn1 : n + 1 ≤ 142) (hn : W.2.2.2.2 < 1000000) (hD : 12 ≤ D) (hc : 1 ≤ c) (hs : 150 ≤ sl) (hQ : ∀ J' L' W' m', sp_sb J' W' (n + 1) (fun k => if k = n then x else l k) m' → sp_lf J J' → (∀ y, y < 303 → L' y = L y) → sp_wf W W' 1 → Qr (some (.inr (.inl (some 301)))) (J', L', W')) : NW sc d_J4_append_cf468 D (0, [some (.inr (.inl (some 301))), some (.inl x)], [], (J, L, W), c, sl) Qr Qx := by
  have h0 := h.1
  refine b_J4_append_cf468_0 hD hc hs (b_J5_append_3fe6f_0 (by decide) (by decide) (by decide) ?_)
  rw [h0.2.1]
  refine ⟨by omega, ?_⟩
  refine t_ensure h ⟨by omega, by omega, hn1⟩ hn (by decide) (by decide) (by decide) (fun J1 L1 W1 m1 s1 le f1 l1 w1 => ?_)
  obtain ⟨⟨a1, a3, a0, am⟩, amm, ⟨av, avn⟩, an3, ak, al, ab⟩ := s1
  refine b_J5_append_3fe6f_10 (by decide) a1 (m := m1) ak (by omega) (by omega) ?_
  rw [a3]
  refine ⟨by omega, by omega, by omega, b_J4_append_cf468_5 ?_⟩
  have ne : ¬ W1.2.2.1 = 301 := by omega
  have e301 : ∀ k, ¬ k = 3 → nw_u (nw_u J1 301 3 (n + 1)) W1.2.2.1 n x 301 k = J1 301 k := fun k w => by rw [nw_uP (fun e => ne e.symm), nw_uI w]
  have eV : ∀ k, nw_u (nw_u J1 301 3 (n + 1)) W1.2.2.1 n x W1.2.2.1 k = if k = n then x else J1 W1.2.2.1 k := fun k => by
    by_cases z : k = n
    · rw [z, nw_uS, if_pos rfl]
    · rw [nw_uI z, nw_uP ne, if_neg z]
  refine hQ _ L1 W1 m1 ⟨⟨by rw [e301 1 (by decide)]; exact a1, by rw [nw_uP (fun e => ne e.symm), nw_uS], by omega, le⟩, amm, ⟨av, avn⟩, an3, ak, fun k k0 k1 => ?_, fun k k0 k1 => ?_⟩ (fun y w => ?_) l1 w1
  · rw [eV]
    show _ = if k = n then x else l k
    by_cases z : k = n
    · rw [if_pos z, if_pos z]
    · rw [if_neg z, if_neg z]
      exact al k k0 (by omega)
  · rw [eV]
    by_cases z : k = n
    · rw [if_pos z]
      omega
    · rw [if_neg z]
      exact ab k k0 k1
  · have y1 : ¬ y = W1.2.2.1 := by omega
    have y2 : ¬ y = 301 := by omega
    rw [nw_uP y1, nw_uP y2]
    exact f1 y w
/-- how many digits -/
def sp_nd10 (x : Int) : Int := if x < 10 then 1 else if x < 100 then 2 else if x < 1000 then 3 else if x < 10000 then 4 else if x < 100000 then 5 else 6
/-- digits of x from n on -/
def sp_num (n x : Int) (l : Int → Int) : Int → Int := fun k => if n ≤ k ∧ k < n + sp_nd10 x then 48 + x / 10 ^ (n + sp_nd10 x - 1 - k).toNat % 10 else l k
theorem sp_nd10_rng (x : Int) : 1 ≤ sp_nd10 x ∧ sp_nd10 x ≤ 6 := by
  unfold sp_nd10
  repeat' split
  all_goals omega
theorem sp_nd10_100 {x : Int} (h : 100 ≤ x ∧ x < 1000000) : sp_nd10 x = sp_nd10 (x / 100) + 2 := by
  unfold sp_nd10
  repeat' split
  all_goals omega
theorem t_stringSize {x : Int} (hx : 0 ≤ x ∧ x < 1000000) (hQ : Qr (some (.inl (sp_nd10 x))) (J, L, W)) : NW sc d_J6_stringSize_0f7a4 D (0, [some (.inl x), none, none, none], [], (J, L, W), c, sl) Qr Qx := by
  have fin : ∀ y, y = sp_nd10 x → Qr (some (.inl y)) (J, L, W) := fun y e => by rw [e]; exact hQ
  unfold sp_nd10 at fin
  refine b_J6_stringSize_0f7a4_0 ⟨fun q => by omega, fun _ => ⟨by omega, ?_⟩⟩
  refine b_J6_stringSize_0f7a4_16 ⟨fun z => by omega, fun _ => ⟨fun q1 => ⟨by omega, by omega, ?_⟩, fun q1 => ⟨by omega, fin _ (by omega)⟩⟩⟩
  refine b_J6_stringSize_0f7a4_16 ⟨fun z => by omega, fun _ => ⟨fun q2 => ⟨by omega, by omega, ?_⟩, fun q2 => ⟨by omega, fin _ (by omega)⟩⟩⟩
  refine b_J6_stringSize_0f7a4_16 ⟨fun z => by omega, fun _ => ⟨fun q3 => ⟨by omega, by omega, ?_⟩, fun q3 => ⟨by omega, fin _ (by omega)⟩⟩⟩
  refine b_J6_stringSize_0f7a4_16 ⟨fun z => by omega, fun _ => ⟨fun q4 => ⟨by omega, by omega, ?_⟩, fun q4 => ⟨by omega, fin _ (by omega)⟩⟩⟩
  refine b_J6_stringSize_0f7a4_16 ⟨fun z => by omega, fun _ => ⟨fun q5 => ⟨by omega, by omega, ?_⟩, fun q5 => ⟨by omega, fin _ (by omega)⟩⟩⟩
  exact b_J6_stringSize_0f7a4_16 ⟨fun z => by omega, fun _ => ⟨fun q6 => by omega, fun q6 => ⟨by omega, fin _ (by omega)⟩⟩⟩
theorem nw_ob1 : ∀ r : Nat, r < 100 → nw_ob 1000201 (r : Int) = 48 + (r : Int) % 10 ∧ nw_ob 1000202 (r : Int) = 48 + (r : Int) / 10 := by decide +kernel
theorem nw_ol12 : mw_ol 1000201 = 100 ∧ mw_ol 1000202 = 100 := by decide
theorem sp_dig2 {v p k : Int} (hv : 0 ≤ v) (h : k < p - 2) : v / 100 / 10 ^ (p - 2 - 1 - k).toNat = v / 10 ^ (p - 1 - k).toNat := by
  rw [show (p - 1 - k).toNat = 2 + (p - 2 - 1 - k).toNat by omega, Int.pow_add, Int.ediv_ediv_of_nonneg (by decide)]
  rfl
theorem t_getChars {v p : Int} {m : Nat} (hk : nw_K (J, L, W) W.2.2.1 (24, m)) (hm : m < 2000) (hv : 0 ≤ v ∧ v < 1000000) (hp : sp_nd10 v ≤ p ∧ p ≤ m) (hQ : ∀ J' y, (∀ x, ¬ x = W.2.2.1 → J' x = J x) → (∀ k, J' W.2.2.1 k = if p - sp_nd10 v ≤ k ∧ k < p then 48 + v / 10 ^ (p - 1 - k).toNat % 10 else J W.2.2.1 k) → Qr (some (.inl y)) (J', L, W)) : NW sc d_J6_getChars_ba4f3 D (0, [some (.inl v), some (.inl p), some (.inr (.inl (some (W.2.2.1)))), none, none, none, none], [], (J, L, W), c, sl) Qr Qx := by
  have lp : ∀ (r : Nat) (v p : Int) (J1 : Nat → Int → Int), v.toNat = r → 0 ≤ v ∧ v < 1000000 → sp_nd10 v ≤ p ∧ p ≤ m → (∀ J' y, (∀ x, ¬ x = W.2.2.1 → J' x = J1 x) → (∀ k, J' W.2.2.1 k = if p - sp_nd10 v ≤ k ∧ k < p then 48 + v / 10 ^ (p - 1 - k).toNat % 10 else J1 W.2.2.1 k) → Qr (some (.inl y)) (J', L, W)) → ∀ x0, x0 = -v → NW sc d_J6_getChars_ba4f3 D (22, [some (.inl x0), none, some (.inr (.inl (some (W.2.2.1)))), none, none, some (.inl p), some (.inl 0)], [], (J1, L, W), c, sl) Qr Qx := by
    intro r9
    induction r9 using Nat.strongRecOn with
    | ind r9 ih =>
      intro v p J1 hr hv hp hq x0 hx0
      have e : -x0 = v := by omega
      have ol := nw_ol12
      have ndr := sp_nd10_rng v
      have hk1 : nw_K (J1, L, W) W.2.2.1 (24, m) := hk
      refine b_J6_getChars_ba4f3_22 hk1 hm ?_
      rw [ol.1, ol.2, e]
      refine ⟨fun q => ?_, fun q => ?_⟩
      · have ob := nw_ob1 v.toNat (by omega)
        rw [Int.toNat_of_nonneg hv.1] at ob
        rw [ob.1, ob.2]
        refine ⟨by omega, by omega, ⟨by omega, by omega⟩, ⟨by omega, by omega⟩, by omega, fun q1 => ⟨fun _ => ?_, fun z => absurd rfl z⟩, fun q1 => ?_⟩
        · have nd : sp_nd10 v = 1 := by unfold sp_nd10; omega
          rw [nd] at hq
          refine hq _ _ (fun x w => nw_uP w) (fun k => ?_)
          by_cases z : k = p + (-1)
          · rw [z, nw_uS, if_pos (by omega), show (p - 1 - (p + -1)).toNat = 0 by omega]
            show 48 + v % 10 = 48 + v / 1 % 10
            omega
          · rw [nw_uI z, if_neg (by omega)]
        · have nd : sp_nd10 v = 2 := by unfold sp_nd10; omega
          rw [nd] at hq hp
          refine ⟨by omega, ⟨by omega, by omega⟩, ⟨by omega, by omega⟩, by omega, fun _ => ?_, fun z => absurd rfl z⟩
          refine hq _ _ (fun x w => by rw [nw_uP w, nw_uP w]) (fun k => ?_)
          by_cases z : k = p + (-1) + (-1)
          · rw [z, nw_uS, if_pos (by omega), show (p - 1 - (p + -1 + -1)).toNat = 1 by omega]
            show 48 + v / 10 = 48 + v / 10 % 10
            omega
          · rw [nw_uI z]
            by_cases z1 : k = p + (-1)
            · rw [z1, nw_uS, if_pos (by omega), show (p - 1 - (p + -1)).toNat = 0 by omega]
              show 48 + v % 10 = 48 + v / 1 % 10
              omega
            · rw [nw_uI z1, if_neg (by omega)]
      · have er : -(v / 100) * 100 - x0 = v % 100 := by omega
        have ob := nw_ob1 (v % 100).toNat (by omega)
        rw [Int.toNat_of_nonneg (by omega)] at ob
        have nd := sp_nd10_100 (x := v) ⟨by omega, hv.2⟩
        have nq := sp_nd10_rng (v / 100)
        rw [er, ob.1, ob.2]
        refine ⟨by omega, by omega, by omega, by omega, ⟨by omega, by omega⟩, ⟨by omega, by omega⟩, by omega, by omega, ⟨by omega, by omega⟩, ⟨by omega, by omega⟩, by omega, ?_⟩
        refine ih (v / 100).toNat (by omega) (v / 100) (p + (-1) + (-1)) _ rfl ⟨by omega, by omega⟩ ⟨by omega, by omega⟩ (fun J' y y1 y2 => hq J' y (fun x w => by rw [y1 x w, nw_uP w, nw_uP w]) (fun k => ?_)) _ rfl
        rw [y2 k, nd]
        by_cases z : k < p - 2
        · by_cases z2 : p - (sp_nd10 (v / 100) + 2) ≤ k
          · rw [if_pos (by omega), if_pos (by omega), show p + -1 + -1 - 1 - k = p - 2 - 1 - k by omega, sp_dig2 hv.1 z]
          · rw [if_neg (by omega), if_neg (by omega), nw_uI (by omega), nw_uI (by omega)]
        · rw [if_neg (by omega)]
          by_cases z2 : k = p + (-1) + (-1)
          · rw [z2, nw_uS, if_pos (by omega), show (p - 1 - (p + -1 + -1)).toNat = 1 by omega]
            show 48 + v % 100 / 10 = 48 + v / 10 % 10
            omega
          · rw [nw_uI z2]
            by_cases z1 : k = p + (-1)
            · rw [z1, nw_uS, if_pos (by omega), show (p - 1 - (p + -1)).toNat = 0 by omega]
              show 48 + v % 100 % 10 = 48 + v / 1 % 10
              omega
            · rw [nw_uI z1, if_neg (by omega)]
  exact b_J6_getChars_ba4f3_0 ⟨fun _ => ⟨by omega, lp _ v p J rfl hv hp hQ _ rfl⟩, fun q => by omega⟩
theorem t_appendI {x n : Int} {l : Int → Int} {m : Nat} (h : sp_sb J W n l m) (hx : 0 ≤ x ∧ x < 1000000) (hn1 : n + 6 ≤ 142) (hn : W.2.2.2.2 < 1000000) (hD : 12 ≤ D) (hc : 1 ≤ c) (hs : 150 ≤ sl) (hQ : ∀ J' L' W' m', sp_sb J' W' (n + sp_nd10 x) (sp_num n x l) m' → sp_lf J J' → (∀ y, y < 303 → L' y = L y) → sp_wf W W' 1 → Qr (some (.inr (.inl (some 301)))) (J', L', W')) : NW sc d_J4_append_bf812 D (0, [some (.inr (.inl (some 301))), some (.inl x)], [], (J, L, W), c, sl) Qr Qx := by
  have h0 := h.1
  have nd := sp_nd10_rng x
  refine b_J4_append_bf812_0 hD hc hs (b_J5_append_c97b9_0 (by decide) (t_stringSize hx (b_J5_append_c97b9_10 (by decide) (by decide) (by decide) ?_)))
  rw [h0.2.1]
  refine ⟨by omega, ?_⟩
  refine t_ensure h ⟨by omega, by omega, by omega⟩ hn (by decide) (by decide) (by decide) (fun J1 L1 W1 m1 s1 le f1 l1 w1 => ?_)
  obtain ⟨⟨a1, a3, a0, am⟩, amm, ⟨av, avn⟩, an3, ak, al, ab⟩ := s1
  have ne : ¬ W1.2.2.1 = 301 := by omega
  refine b_J5_append_c97b9_17 (by decide) a1 (t_getChars (m := m1) ak (by omega) hx ⟨by omega, le⟩ (fun J2 y x2 y2 => b_J5_append_c97b9_33 (b_J4_append_bf812_5 ?_)))
  have e301 : ∀ k, ¬ k = 3 → nw_u J2 301 3 (n + sp_nd10 x) 301 k = J1 301 k := fun k w => by rw [nw_uI w, x2 301 (fun e => ne e.symm)]
  have eV : nw_u J2 301 3 (n + sp_nd10 x) W1.2.2.1 = J2 W1.2.2.1 := nw_uP ne
  refine hQ _ L1 W1 m1 ⟨⟨by rw [e301 1 (by decide)]; exact a1, nw_uS, by omega, le⟩, amm, ⟨av, avn⟩, an3, ak, fun k k0 k1 => ?_, fun k k0 k1 => ?_⟩ (fun y w => ?_) l1 w1
  · rw [eV, y2 k]
    show _ = if n ≤ k ∧ k < n + sp_nd10 x then 48 + x / 10 ^ (n + sp_nd10 x - 1 - k).toNat % 10 else l k
    by_cases z : n ≤ k ∧ k < n + sp_nd10 x
    · rw [if_pos (by omega), if_pos z]
    · rw [if_neg (by omega), if_neg z]
      exact al k k0 (by omega)
  · rw [eV, y2 k]
    split
    · omega
    · exact ab k k0 k1
  · have y1 : ¬ y = W1.2.2.1 := by omega
    have y3 : ¬ y = 301 := by omega
    rw [nw_uP y3, x2 y y1]
    exact f1 y w
theorem t_setLength {n : Int} {l : Int → Int} {m : Nat} (h : sp_sb J W n l m) (hn : W.2.2.2.2 < 1000000) (hD : 12 ≤ D) (hc : 1 ≤ c) (hs : 150 ≤ sl) (hQ : ∀ J' L' W' m', sp_sb J' W' 0 l m' → sp_lf J J' → (∀ y, y < 303 → L' y = L y) → sp_wf W W' 1 → Qr none (J', L', W')) : NW sc d_J4_setLength_d00df D (0, [some (.inr (.inl (some 301))), some (.inl 0)], [], (J, L, W), c, sl) Qr Qx := by
  have h0 := h.1
  refine b_J4_setLength_d00df_0 hD hc hs (b_J5_setLength_d00df_0 (by decide) (by decide) (by decide) (Int.le_refl _) ?_)
  refine t_ensure h ⟨by omega, by omega, by omega⟩ hn (by decide) (by decide) (by decide) (fun J1 L1 W1 m1 s1 le f1 l1 w1 => ?_)
  obtain ⟨⟨a1, a3, a0, am⟩, amm, ⟨av, avn⟩, an3, ak, al, ab⟩ := s1
  have ne : ¬ W1.2.2.1 = 301 := by omega
  have fin : ∀ J2 : Nat → Int → Int, (∀ y, ¬ y = 301 → J2 y = J1 y) → J2 301 1 = J1 301 1 → J2 301 3 = 0 → Qr none (J2, L1, W1) := fun J2 y1 y2 y3 => by
    refine hQ J2 L1 W1 m1 ⟨⟨y2.trans a1, y3, Int.le_refl _, by omega⟩, amm, ⟨av, avn⟩, an3, ak, fun k k0 k1 => by omega, fun k k0 k1 => by rw [y1 _ ne]; exact ab k k0 k1⟩ (fun y w => by rw [y1 y (by omega)]; exact f1 y w) l1 w1
  refine b_J5_setLength_d00df_18 (by omega) ⟨fun _ => b_J4_setLength_d00df_5 (fin _ (fun y w => nw_uP w) (nw_uI (by decide)) nw_uS), fun _ => b_J4_setLength_d00df_5 (fin _ (fun y w => by rw [nw_uP w, nw_uP w]) (by rw [nw_uI (by decide), nw_uI (by decide)]) nw_uS)⟩
theorem t_charAt {i n : Int} {l : Int → Int} {m : Nat} (h : sp_sb J W n l m) (hi : 0 ≤ i ∧ i < n) (hl : 0 ≤ l i ∧ l i < 128) (hD : 12 ≤ D) (hQ : Qr (some (.inl (l i))) (J, L, W)) : NW sc d_J4_charAt_5068e D (0, [some (.inr (.inl (some 301))), some (.inl i)], [], (J, L, W), c, sl) Qr Qx := by
  obtain ⟨⟨a1, a3, a0, am⟩, amm, ⟨av, avn⟩, an3, ak, al, ab⟩ := h
  have e : (nw_xiand (J W.2.2.1 i) 255) % 65536 = l i := by
    rw [al i hi.1 hi.2, nw_and255 (by omega)]
    omega
  refine b_J4_charAt_5068e_0 hD (b_J5_charAt_5068e_0 (by decide) a1 (m := m) ak (by omega) hi.1 ⟨by omega, by omega⟩ ?_)
  rw [e]
  exact ⟨fun _ => ⟨by omega, by omega, b_J4_charAt_5068e_5 ⟨by omega, hQ⟩⟩, fun _ => ⟨by omega, by omega, b_J4_charAt_5068e_5 ⟨by omega, hQ⟩⟩⟩
end

