/-! running a command text -/
section
variable {sc : Nat × (Nat → Int32)} {D : Nat} {J L : Nat → Int → Int} {W : nw_W} {c sl : Nat} {Qr : nw_QR} {Qx : nw_QX} {g : Int → Int} {B : Int}
/-- the i-th command of a text: its kind, its values -/
def sp_ck (T : Int → Int) (n : Int) (i : Nat) : Nat := (sp_kd T n ((sp_pl T n 10 0).1.getD i 0)).toNat
def sp_cv (T : Int → Int) (n : Int) (i j : Nat) : Int := sp_pv T n ((sp_pl T n 10 0).1.getD i 0) j
/-- the word behind the first i commands -/
noncomputable def sp_sq (T : Int → Int) (n : Int) (g : Int → Int) : Nat → Int → Int
  | 0 => g
  | i + 1 => sp_og (sp_ck T n i) (sp_sq T n g i) (sp_cv T n i 0) (sp_cv T n i 1) (sp_cv T n i 2) (sp_cv T n i 3)
def sp_co (T : Int → Int) (n : Int) (g : Int → Int) (i : Nat) : Prop := sp_oo (sp_ck T n i) (sp_sq T n g i) (sp_cv T n i 0) (sp_cv T n i 1) (sp_cv T n i 2) (sp_cv T n i 3)
def sp_cf (T : Int → Int) (n : Int) (g : Int → Int) (i : Nat) (e r : Int) : Prop := sp_of (sp_ck T n i) (sp_sq T n g i) (sp_cv T n i 0) (sp_cv T n i 1) (sp_cv T n i 2) (sp_cv T n i 3) e r
theorem sp_ck_lt (T : Int → Int) (n : Int) (i : Nat) : sp_ck T n i < 10 := by
  have := sp_kd_rng T n ((sp_pl T n 10 0).1.getD i 0)
  unfold sp_ck
  omega
theorem sp_pl_len {T : Int → Int} {n : Int} : ∀ {f : Nat} {s : Int}, (sp_pl T n f s).1.length ≤ f
  | 0, _ => Nat.le_refl _
  | f + 1, s => by
    have ih := sp_pl_len (T := T) (n := n) (f := f) (s := (sp_rd T n s).1 + 1)
    rw [sp_pl]
    repeat' split
    · exact Nat.zero_le _
    · show (sp_pl T n f ((sp_rd T n s).1 + 1)).1.length + 1 ≤ f + 1
      omega
    · show 1 ≤ f + 1
      omega
    · show 1 ≤ f + 1
      omega
/-- two ways to fail are one -/
theorem sp_cf_uniq {T : Int → Int} {n : Int} {g : Int → Int} {i i' : Nat} {e r e' r' : Int} (h : sp_cf T n g i e r) (hb : ∀ j, j < i → sp_co T n g j) (k : sp_cf T n g i' e' r') (kb : ∀ j, j < i' → sp_co T n g j) : i = i' ∧ e = e' ∧ r = r' := by
  rcases Nat.lt_trichotomy i i' with q | q | q
  · exact (op_excl h (kb i q)).elim
  · subst q
    exact ⟨rfl, op_det h k⟩
  · exact (op_excl k (hb i' q)).elim
theorem t_X11_run {n v tn : Int} {G : Nat → Int → Int} {S T : Int → Int} (h : sp_cA J L W g n G v S B) (hB : B + 2200 ≤ 4000000) (hn : J 297 0 = tn) (n0 : 0 ≤ tn ∧ tn ≤ 60) (hT : J 299 = T) (hD : 16 ≤ D) (hc : 1 ≤ c) (hs : 6 ≤ sl)
    (hE : ¬ (sp_pl T tn 10 0).2 = -1 → ∀ J', (∀ x, ¬ (x = 0 ∨ (297 ≤ x ∧ x ≤ 300)) → J' x = J x) → (∀ k, ¬ k = 11 → J' 0 k = J 0 k) → J' 0 11 = (sp_pl T tn 10 0).2 → J' 297 0 = 0 → J' 299 = J 299 → ∀ n2, W.2.2.2.2 ≤ n2 → Qx 1 (J', L, nw_top W n2))
    (hF : (sp_pl T tn 10 0).2 = -1 → ∀ (i : Nat) e r, i < (sp_pl T tn 10 0).1.length → (∀ j, j < i → sp_co T tn g j) → sp_cf T tn g i e r → ∀ J' L', (∀ x, ¬ ((0 ≤ x ∧ x ≤ 78) ∨ (297 ≤ x ∧ x ≤ 300)) → J' x = J x) → (∀ x, ¬ (1 ≤ x ∧ x ≤ 78) → L' x = L x) → (∀ k, ¬ k = 12 → J' 0 k = J 0 k) → J' 0 12 = (i : Int) → J' 297 0 = 0 → J' 299 = J 299 → J' 1 0 = (if r = 0 then J 1 0 else r) → sp_cA J' L' W g n G v S (B + 2200) → ∀ n2, W.2.2.2.2 ≤ n2 → Qx 2 (J', L', nw_top W n2))
    (hS : (sp_pl T tn 10 0).2 = -1 → (∀ j, j < (sp_pl T tn 10 0).1.length → sp_co T tn g j) → ∀ J' L' (W' : nw_W), (∀ x, ¬ ((1 ≤ x ∧ x ≤ 78) ∨ (103 ≤ x ∧ x ≤ 300)) → J' x = J x) → (∀ x, ¬ ((1 ≤ x ∧ x ≤ 78) ∨ (103 ≤ x ∧ x ≤ 296)) → L' x = L x) → W'.1 = W.1 → W'.2.2 = W.2.2 → J' 297 0 = 0 → J' 299 = J 299 → J' 1 0 = J 1 0 → sp_cA J' L' W' (sp_sq T tn g (sp_pl T tn 10 0).1.length) (if n = 8 then 8 else n + 1) (sp_psh n G g) v S (B + 2200) → Qr (some (.inl (((sp_pl T tn 10 0).1.length : Nat) : Int))) (J', L', W')) : NW sc d_X11_run D (0, [some (.inr (.inl (some 0))), none, none], [], (J, L, W), c, sl) Qr Qx := by
  have len := sp_pl_len (T := T) (n := tn) (f := 10) (s := 0)
  obtain ⟨m, hm⟩ : ∃ m, (sp_pl T tn 10 0).1.length = m := ⟨_, rfl⟩
  rw [hm] at hF hS len
  refine b_X11_run_0 hD (t_X1_parse hn n0 hT (by decide) (fun J1 x1 y1 z1 cm => b_X11_run_7 hD hc hs ⟨fun z => ?_, fun z n2 h2 => ?_⟩))
  · have cm := cm z
    rw [hm] at cm
    have u : ∀ x, ¬ x = 297 → nw_u J1 297 0 0 x = J1 x := fun x a => nw_uP a
    have c1 : sp_cA (nw_u J1 297 0 0) L W g n G v S B := h.keep (fun x a => by rw [u x (by omega), x1 x (by omega)]) (fun _ _ => rfl) (by rw [u 0 (by decide), x1 0 (by decide)])
    refine t_before c1 (by decide) (fun J2 L2 x2 l2 c2 o2 => b_X11_run_45 ?_)
    have e1 : J2 297 1 = m := by rw [x2 297 (by decide), nw_uI (by decide)]; exact cm.1
    have e0 : J2 297 0 = 0 := by rw [x2 297 (by decide)]; exact nw_uS
    have e9 : J2 299 = J 299 := by rw [x2 299 (by decide), u 299 (by decide)]; exact y1
    have cm2 : ∀ i : Nat, i < m → J2 298 i = (sp_ck T tn i : Nat) ∧ ∀ j : Nat, j < sp_nd (sp_F (sp_ck T tn i)) → J2 300 (4 * i + j) = sp_cv T tn i j := fun i hi => by
      have a := cm.2 i hi
      rw [x2 298 (by decide), x2 300 (by decide), u 298 (by decide), u 300 (by decide)]
      refine ⟨a.1.trans ?_, a.2.2⟩
      have b : 0 ≤ sp_kd T tn ((sp_pl T tn 10 0).1.getD i 0) := a.2.1
      unfold sp_ck
      omega
    have fj : ∀ x, ¬ ((55 ≤ x ∧ x ≤ 78) ∨ (297 ≤ x ∧ x ≤ 300)) → J2 x = J x := fun x a => by rw [x2 x (by omega), u x (by omega), x1 x (by omega)]
    have lp : ∀ (r i : Nat) (J3 L3 : Nat → Int → Int), i ≤ m → m - i = r → (∀ j, j < i → sp_co T tn g j) → sp_cA J3 L3 W (sp_sq T tn g i) n G v S (B + 200 * i) → sp_ok 55 J3 L3 g B → (∀ x, ¬ (2 ≤ x ∧ x ≤ 54) → J3 x = J2 x) → (∀ x, ¬ x = 2 → L3 x = L2 x) → NW sc d_X11_run D (47, [some (.inr (.inl (some 0))), none, some (.inl ((i : Int)))], [], (J3, L3, W), c, sl) Qr Qx := by
      intro r
      induction r with
      | zero =>
        intro i J3 L3 hi hr ho c3 o3 x3 l3
        have e : i = m := by omega
        subst e
        refine b_X11_run_47 hD ⟨fun q => ?_, fun q => by rw [x3 297 (by decide), e1] at q; omega⟩
        refine t_X5_remember c3.2.1.1 c3.2.1.2.1 c3.2.1.2.2 (by decide) (fun J4 L4 W4 x4 l4 w1 w2 hp e ok => b_X11_run_107 ?_)
        have n1 := c3.2.1.2.2
        rw [show J4 297 1 = i by rw [x4 297 (by decide), x3 297 (by decide)]; exact e1]
        refine hS z ho J4 L4 W4 (fun x a => ?_) (fun x a => ?_) w1 w2 (by rw [x4 297 (by decide), x3 297 (by decide)]; exact e0) (by rw [x4 299 (by decide), x3 299 (by decide)]; exact e9) (by rw [x4 1 (by decide), x3 1 (by decide), fj 1 (by decide)]) ?_
        · rw [x4 x (by omega), x3 x (by omega), fj x (by omega)]
        · rw [l4 x (by omega), l3 x (by omega), l2 x (by omega)]
        · refine ⟨(c3.1.keep (fun x a b => x4 x (by omega)) (l4 2 (by omega))).up (by omega) hB, ⟨hp, e, by split <;> omega, by split <;> omega⟩, fun k hk => (ok (B + 200 * i) G g c3.2.2.1 (o3.up (by omega) (by omega)) k (by rw [e]; exact hk)).up (by omega) hB, by rw [x4 0 (by omega)]; exact c3.2.2.2.1, fun y => ((c3.2.2.2.2 y).keep (fun x a b => x4 x (by omega)) (l4 79 (by omega))).up (by omega) hB⟩
      | succ r ih =>
        intro i J3 L3 hi hr ho c3 o3 x3 l3
        refine b_X11_run_47 hD ⟨fun q => by rw [x3 297 (by decide), e1] at q; omega, fun q => ?_⟩
        have ci := cm2 i (by omega)
        have s298 : J3 298 = J2 298 := x3 298 (by decide)
        have s300 : J3 300 = J2 300 := x3 300 (by decide)
        refine t_carry (p := sp_cv T tn i) (sp_ck_lt T tn i) (by rw [s298]; exact ci.1) (fun j hj => by rw [s300]; exact ci.2 j hj) ⟨by omega, by omega⟩ (sp_sh2.mp c3.1.1) c3.1.2.1 c3.1.2.2 (by omega) (by decide) (fun e r hf => ?_) (fun hok J4 L4 f4 l4 R4 => ?_)
        · have rg := op_rng hf
          refine b_X11_run_63 hD ⟨fun y => by omega, fun _ => ?_⟩
          have xr : ∀ x, ¬ x = 1 → (if r = 0 then J3 else nw_u J3 1 0 r) x = J3 x := fun x a => by
            split
            · rfl
            · exact nw_uP a
          refine t_X8_copies (p := 2) (q := 55) (by decide) (by decide) (by decide) (by decide) (fun J5 L5 x5 l5 ok => b_X11_run_77 hc hs (fun n2 h2 => ?_))
          have u5 : ∀ x, ¬ x = 0 → nw_u J5 0 12 (i : Int) x = J5 x := fun x a => nw_uP a
          refine hF z i e r (by omega) ho hf _ L5 (fun x a => ?_) (fun x a => ?_) (fun k a => ?_) nw_uS ?_ ?_ ?_ ?_ n2 h2
          · rw [u5 x (by omega), x5 x (by omega), xr x (by omega), x3 x (by omega), fj x (by omega)]
          · rw [l5 x (by omega), l3 x (by omega), l2 x (by omega)]
          · rw [nw_uI a, x5 0 (by decide), xr 0 (by decide), x3 0 (by decide), fj 0 (by decide)]
          · rw [u5 297 (by decide), x5 297 (by decide), xr 297 (by decide), x3 297 (by decide)]
            exact e0
          · rw [u5 299 (by decide), x5 299 (by decide), xr 299 (by decide), x3 299 (by decide)]
            exact e9
          · rw [u5 1 (by decide), x5 1 (by decide)]
            split
            · rw [x3 1 (by decide), fj 1 (by decide)]
            · exact nw_uS
          · have c5 : sp_cA (nw_u J5 0 12 (i : Int)) L5 W g n G v S (B + 2200) := by
              have keep : ∀ a, 79 ≤ a → a ≤ 273 → ∀ g' B', sp_ok a J3 L3 g' B' → sp_ok a (nw_u J5 0 12 (i : Int)) L5 g' B' := fun a a0 a1 g' B' k => k.keep (fun x b d => by rw [u5 x (by omega), x5 x (by omega), xr x (by omega)]) (l5 a (by omega))
              refine ⟨((ok g B (o3.keep (fun x a b => xr x (by omega)) rfl)).keep (fun x a b => u5 x (by omega)) rfl).up (by omega) hB, ⟨c3.2.1.1, by rw [u5 103 (by decide), x5 103 (by decide), xr 103 (by decide)]; exact c3.2.1.2.1, c3.2.1.2.2⟩, fun k hk => ?_, by rw [nw_uI (by decide), x5 0 (by decide), xr 0 (by decide)]; exact c3.2.2.2.1, fun y => (keep 79 (by decide) (by decide) _ _ (c3.2.2.2.2 y)).up (by omega) hB⟩
              have hp := c3.2.1.1.1 k (by have := c3.2.1.2.2.2; omega)
              exact (keep _ (by omega) (nw_st_le hp.1) _ _ (c3.2.2.1 k hk)).up (by omega) hB
            exact c5
        · have iv := op_inv c3.1.2.1 c3.1.2.2 (by omega) hok
          refine b_X11_run_63 hD ⟨fun _ => ⟨by omega, ?_⟩, fun y => by omega⟩
          rw [show (i : Int) + 1 = ((i + 1 : Nat) : Int) by omega]
          have c4 := c3.op (by omega) f4 l4 R4 ⟨iv.1, iv.2.1⟩
          rw [show B + 200 * (i : Int) + 200 = B + 200 * ((i + 1 : Nat) : Int) by omega] at c4
          refine ih (i + 1) J4 L4 (by omega) (by omega) (fun j hj => ?_) c4 (o3.keep (fun x a b => f4 x (by omega)) (l4 55 (by omega))) (fun x a => by rw [f4 x a, x3 x a]) (fun x a => by rw [l4 x (by omega), l3 x a])
          by_cases w : j < i
          · exact ho j w
          · rw [show j = i by omega]
            exact hok
    refine lp m 0 J2 L2 (Nat.zero_le _) (by omega) (fun j hj => absurd hj (Nat.not_lt_zero _)) ?_ o2 (fun _ _ => rfl) (fun _ _ => rfl)
    rw [show B + 200 * ((0 : Nat) : Int) = B by omega]
    exact c2
  · refine hE z _ (fun x a => ?_) (fun k a => ?_) nw_uS ?_ ?_ n2 h2
    · have a0 : ¬ x = 0 := by omega
      have a1 : ¬ x = 297 := by omega
      rw [nw_uP a0, nw_uP a1]
      exact x1 x (by omega)
    · rw [nw_uI a, nw_uP (by decide), x1 0 (by decide)]
    · rw [nw_uP (by decide)]
      exact nw_uS
    · rw [nw_uP (by decide), nw_uP (by decide)]
      exact y1
end

