/-! the queue of craters, and hours spread from a crater: contracts -/
section
variable {sc : Nat × (Nat → Int32)} {D : Nat} {J L : Nat → Int → Int} {W : nw_W} {c sl : Nat} {Qr : nw_QR} {Qx : nw_QX} {g : Int → Int} {B : Int}
/-- an entry of the queue -/
def sp_q (J : Nat → Int → Int) (c h : Int) : Prop := ∃ k, 0 ≤ k ∧ k < J 40 1 ∧ J 41 k = c ∧ J 42 k = h
def sp_qs (J : Nat → Int → Int) : Prop := ∀ i j, 0 ≤ i → i ≤ j → j < J 40 1 → J 42 j ≤ J 42 i
theorem t_X2_put {a h n : Int} (hn : J 40 1 = n) (h0 : 0 ≤ n) (h1 : n < 21) (hs : sp_qs J) (hQ : ∀ J', sp_fr 40 42 J J' → J' 40 0 = J 40 0 → J' 40 1 = n + 1 → sp_qs J' → (∀ b k, sp_q J b k → sp_q J' b k) → sp_q J' a h → (∀ b k, sp_q J' b k → sp_q J b k ∨ (b = a ∧ k = h)) → Qr none (J', L, W)) : NW sc d_X2_put D (0, [some (.inr (.inl (some 40))), some (.inl a), some (.inl h), none], [], (J, L, W), c, sl) Qr Qx := by
  have lp : ∀ (m : Nat) (i : Int) (J1 : Nat → Int → Int), 0 ≤ i → i ≤ n → i.toNat = m → (∀ x, ¬ (x = 41 ∨ x = 42) → J1 x = J x) → (∀ k, 0 ≤ k → k < i → J1 41 k = J 41 k ∧ J1 42 k = J 42 k) → (∀ k, i < k → k ≤ n → J1 41 k = J 41 (k - 1) ∧ J1 42 k = J 42 (k - 1) ∧ J 42 (k - 1) < h) → NW sc d_X2_put D (15, [some (.inr (.inl (some 40))), some (.inl a), some (.inl h), some (.inl i)], [], (J1, L, W), c, sl) Qr Qx := by
    intro r9
    induction r9 using Nat.strongRecOn with
    | ind r9 ih =>
      intro i J1 i0 i1 hm hx hl hu
      have n1 : J1 40 1 = n := by rw [hx 40 (by omega)]; exact hn
      have fin : (i = 0 ∨ h ≤ J 42 (i - 1)) → Qr none (nw_u (nw_u (nw_u J1 41 i a) 42 i h) 40 1 (n + 1), L, W) := fun hi => by
        have r40 : nw_u (nw_u (nw_u J1 41 i a) 42 i h) 40 1 (n + 1) 40 1 = n + 1 := nw_uS
        have v41 : ∀ k, nw_u (nw_u (nw_u J1 41 i a) 42 i h) 40 1 (n + 1) 41 k = if k = i then a else J1 41 k := fun k => by simp [nw_u]
        have v42 : ∀ k, nw_u (nw_u (nw_u J1 41 i a) 42 i h) 40 1 (n + 1) 42 k = if k = i then h else J1 42 k := fun k => by simp [nw_u]
        refine hQ _ (fun x z => by rw [nw_uP (by omega), nw_uP (by omega), nw_uP (by omega)]; exact hx x (by omega)) (by simp [nw_u]; rw [hx 40 (by omega)]) r40 ?_ ?_ ?_ ?_
        · intro x y x0 xy yn
          rw [r40] at yn
          rw [v42, v42]
          by_cases e1 : x = i
          · rw [if_pos e1]
            by_cases e2 : y = i
            · rw [if_pos e2]
              exact Int.le_refl _
            · rw [if_neg e2]
              have := hu y (by omega) (by omega)
              omega
          · rw [if_neg e1]
            by_cases e2 : y = i
            · rw [if_pos e2, (hl x x0 (by omega)).2]
              have := hs x (i - 1) x0 (by omega) (by omega)
              omega
            · rw [if_neg e2]
              by_cases e3 : x < i
              · rw [(hl x x0 e3).2]
                by_cases e4 : y < i
                · rw [(hl y (by omega) e4).2]
                  exact hs x y x0 xy (by omega)
                · rw [(hu y (by omega) (by omega)).2.1]
                  exact hs x (y - 1) x0 (by omega) (by omega)
              · rw [(hu x (by omega) (by omega)).2.1, (hu y (by omega) (by omega)).2.1]
                exact hs (x - 1) (y - 1) (by omega) (by omega) (by omega)
        · rintro b k ⟨z, z0, z1, z2, z3⟩
          by_cases e : z < i
          · refine ⟨z, z0, by rw [r40]; omega, ?_, ?_⟩
            · rw [v41, if_neg (by omega), (hl z z0 e).1]; exact z2
            · rw [v42, if_neg (by omega), (hl z z0 e).2]; exact z3
          · have hh := hu (z + 1) (by omega) (by omega)
            rw [show z + 1 - 1 = z by omega] at hh
            refine ⟨z + 1, by omega, by rw [r40]; omega, ?_, ?_⟩
            · rw [v41, if_neg (by omega), hh.1]; exact z2
            · rw [v42, if_neg (by omega), hh.2.1]; exact z3
        · exact ⟨i, i0, by rw [r40]; omega, by rw [v41, if_pos rfl], by rw [v42, if_pos rfl]⟩
        · rintro b k ⟨z, z0, z1, z2, z3⟩
          rw [r40] at z1
          rw [v41] at z2
          rw [v42] at z3
          by_cases e : z = i
          · rw [if_pos e] at z2 z3
            exact Or.inr ⟨z2.symm, z3.symm⟩
          · rw [if_neg e] at z2 z3
            by_cases e2 : z < i
            · rw [(hl z z0 e2).1] at z2
              rw [(hl z z0 e2).2] at z3
              exact Or.inl ⟨z, z0, by omega, z2, z3⟩
            · have hh := hu z (by omega) (by omega)
              rw [hh.1] at z2
              rw [hh.2.1] at z3
              exact Or.inl ⟨z - 1, by omega, by omega, z2, z3⟩
      refine b_X2_put_15 ?_
      rw [n1]
      refine ⟨fun q => ⟨by omega, by omega, fin (Or.inl (by omega))⟩, fun q => ⟨by omega, by omega, ?_⟩⟩
      rw [(hl (i - 1) (by omega) (by omega)).2, (hl (i - 1) (by omega) (by omega)).1]
      refine ⟨fun q2 => ⟨by omega, by omega, fin (Or.inr q2)⟩, fun q2 => ⟨by omega, by omega, ?_⟩⟩
      refine ih _ (by omega) (i + (-1)) _ (by omega) (by omega) rfl (fun x z => by rw [nw_uP (by omega), nw_uP (by omega)]; exact hx x z) (fun k a b => ?_) (fun k a b => ?_)
      · rw [nw_uN (by decide), nw_uI (by omega), nw_uI (by omega)]
        exact hl k a (by omega)
      · by_cases e : k = i
        · subst e
          rw [nw_uN (by decide), nw_uS, nw_uS]
          exact ⟨rfl, rfl, q2⟩
        · rw [nw_uN (by decide), nw_uI (by omega), nw_uI (by omega)]
          exact hu k (by omega) b
  refine b_X2_put_0 ?_
  rw [hn]
  exact ⟨fun _ => lp _ n J h0 (Int.le_refl _) rfl (fun _ _ => rfl) (fun k a b => ⟨rfl, rfl⟩) (fun k a b => by omega), fun q => by omega⟩
theorem t_X2_take {n : Int} (hn : J 40 1 = n) (h0 : 0 ≤ n) (h1 : n ≤ 21) (hs : sp_qs J) (hQ0 : n = 0 → Qr (some (.inl (-1))) (J, L, W)) (hQ : 0 < n → ∀ J' a h, sp_fr 40 40 J J' → J' 40 0 = h → J' 40 1 = n - 1 → sp_qs J' → sp_q J a h → (∀ b k, sp_q J b k → h ≤ k) → (∀ b k, sp_q J b k → (b = a ∧ k = h) ∨ sp_q J' b k) → (∀ b k, sp_q J' b k → sp_q J b k) → Qr (some (.inl a)) (J', L, W)) : NW sc d_X2_take D (0, [some (.inr (.inl (some 40)))], [], (J, L, W), c, sl) Qr Qx := by
  refine b_X2_take_0 ?_
  rw [hn]
  refine ⟨fun q => ⟨by omega, by omega, ?_⟩, fun q => hQ0 q⟩
  have r1 : nw_u (nw_u J 40 1 (n - 1)) 40 0 (J 42 (n - 1)) 40 1 = n - 1 := by rw [nw_uI (by decide), nw_uS]
  have r41 : nw_u (nw_u J 40 1 (n - 1)) 40 0 (J 42 (n - 1)) 41 = J 41 := by rw [nw_uP (by decide), nw_uP (by decide)]
  have r42 : nw_u (nw_u J 40 1 (n - 1)) 40 0 (J 42 (n - 1)) 42 = J 42 := by rw [nw_uP (by decide), nw_uP (by decide)]
  refine hQ (by omega) _ _ (J 42 (n - 1)) ((sp_fr.refl.u (by decide)).u (by decide)) nw_uS r1 ?_ ⟨n - 1, by omega, by omega, rfl, rfl⟩ ?_ ?_ ?_
  · intro x y a b d
    rw [r1] at d
    rw [r42]
    exact hs x y a b (by omega)
  · rintro b k ⟨z, z0, z1, z2, z3⟩
    rw [← z3]
    exact hs z (n - 1) z0 (by omega) (by omega)
  · rintro b k ⟨z, z0, z1, z2, z3⟩
    by_cases e : z = n - 1
    · subst e
      exact Or.inl ⟨z2.symm, z3.symm⟩
    · exact Or.inr ⟨z, z0, by rw [r1]; omega, by rw [r41]; exact z2, by rw [r42]; exact z3⟩
  · rintro b k ⟨z, z0, z1, z2, z3⟩
    rw [r1] at z1
    rw [r41] at z2
    rw [r42] at z3
    exact ⟨z, z0, by omega, z2, z3⟩
theorem sp_sum_le {f h : Int → Int} : ∀ {n : Nat}, (∀ i : Int, 0 ≤ i → i < n → f i ≤ h i) → sp_sum f n ≤ sp_sum h n
  | 0, _ => Int.le_refl _
  | n + 1, e => by
    rw [sp_sum, sp_sum]
    have := sp_sum_le (n := n) (fun i a b => e i a (by omega))
    have := e n (by omega) (by omega)
    omega
theorem sp_sum_lt {f h : Int → Int} {p : Int} (hp : 0 ≤ p) (hq : f p + 1 ≤ h p) : ∀ {n : Nat}, p < n → (∀ i : Int, 0 ≤ i → i < n → f i ≤ h i) → sp_sum f n + 1 ≤ sp_sum h n
  | 0, h0, _ => by omega
  | n + 1, h0, e => by
    rw [sp_sum, sp_sum]
    by_cases q : p = n
    · subst q
      have := sp_sum_le (n := n) (fun i a b => e i a (by omega))
      omega
    · have := sp_sum_lt hp hq (n := n) (by omega) (fun i a b => e i a (by omega))
      have := e n (by omega) (by omega)
      omega
theorem sp_b_mono {P Q : Prop} (h : P → Q) : sp_b P ≤ sp_b Q := by
  rcases Classical.em P with p | p
  · rw [sp_bT p, sp_bT (h p)]
    exact Int.le_refl _
  · rw [sp_bF p]
    exact (sp_b_rng Q).1
/-- where an unfinished crater that can be reached has an entry ahead of it -/
theorem sp_front {g : Int → Int} {B a : Int} (hI : Inv g B) {F : Int → Prop} {Q : Int → Int → Prop} (ha : F a ∨ Q a 0) (hQ : ∀ x b e, F x → 0 ≤ e → e < g 2 → sp_con g x b e → ¬ F b → Q b (sp_D g a x + g (36 + e))) : ∀ (n : Nat) (b : Int), (sp_D g a b).toNat = n → ¬ F b → ¬ sp_D g a b = 10000 → ∃ c h, Q c h ∧ h ≤ sp_D g a b := by
  intro n
  induction n using Nat.strongRecOn with
  | ind n ih =>
    intro b hb hF hD
    by_cases e : a = b
    · subst e
      rcases ha with z | z
      · exact absurd z hF
      · exact ⟨a, 0, z, sp_D_nn hI a a⟩
    · obtain ⟨c, x, c0, c1, c2, c3, c4⟩ := sp_D_last hI e hD
      have ch := hI.cha c c0 c1
      rcases Classical.em (F x) with z | z
      · exact ⟨b, _, hQ x b c z c0 c1 c2 hF, by omega⟩
      · have h0 := sp_D_nn hI a x
        obtain ⟨y, h, q1, q2⟩ := ih _ (by omega) x rfl z c4
        exact ⟨y, h, q1, by omega⟩
/-- channels used so far, while channels below d of crater x are -/
def sp_used (g : Int → Int) (F : Int → Prop) (x d e : Int) : Prop := (F (g (16 + e)) ∧ ¬ g (16 + e) = x) ∨ (F (g (26 + e)) ∧ ¬ g (26 + e) = x) ∨ ((g (16 + e) = x ∨ g (26 + e) = x) ∧ e < d)
noncomputable def sp_nu (g : Int → Int) (F : Int → Prop) (x d : Int) : Int := sp_sum (fun e => sp_b (sp_used g F x d e)) (g 2).toNat
theorem sp_nu_rng {g : Int → Int} {B : Int} (hI : Inv g B) (F : Int → Prop) (x d : Int) : 0 ≤ sp_nu g F x d ∧ sp_nu g F x d ≤ 10 := by
  have := sp_sum_bd (f := fun e => sp_b (sp_used g F x d e)) (b := 1) (n := (g 2).toNat) (fun i _ _ => sp_b_rng _)
  have := hI.ch
  unfold sp_nu
  omega
theorem t_X10_spreadFrom {a : Int} (hR : RC J L g) (hI : Inv g B) (ha : 0 ≤ a ∧ a < g 1) (hD : 1 ≤ D) (hQ : ∀ J', (∀ x, ¬ (x = 30 ∨ (40 ≤ x ∧ x ≤ 42)) → J' x = J x) → (∀ b, 0 ≤ b → b < g 1 → J' 30 b = sp_enc (sp_D g a b)) → Qr none (J', L, W)) : NW sc d_X10_spreadFrom D (0, [some (.inr (.inl (some 29))), some (.inr (.inl (some 3))), some (.inl a), none, none, none, none], [], (J, L, W), c, sl) Qr Qx := by
  have kc := hI.cr
  have kh := hI.ch
  have outer : ∀ (r : Nat) (t n : Int) (J1 : Nat → Int → Int), 0 ≤ t → (21 - t).toNat = r → (∀ x, ¬ (x = 30 ∨ (40 ≤ x ∧ x ≤ 42)) → J1 x = J x) → J1 40 1 = n → 0 ≤ n → sp_qs J1 → (∀ b, 0 ≤ b → b < g 1 → J1 30 b = -1 ∨ (J1 30 b = sp_D g a b ∧ ¬ sp_D g a b = 10000)) → (∀ b h, sp_q J1 b h → 0 ≤ b ∧ b < g 1 ∧ sp_D g a b ≤ h ∧ h ≤ 600) → ((0 ≤ a ∧ a < g 1 ∧ ¬ J1 30 a = -1) ∨ sp_q J1 a 0) → (∀ x b e, (0 ≤ x ∧ x < g 1 ∧ ¬ J1 30 x = -1) → 0 ≤ e → e < g 2 → sp_con g x b e → ¬ (0 ≤ b ∧ b < g 1 ∧ ¬ J1 30 b = -1) → sp_q J1 b (sp_D g a x + g (36 + e))) → t + n ≤ 1 + sp_nu g (fun b => 0 ≤ b ∧ b < g 1 ∧ ¬ J1 30 b = -1) (-1) 0 → NW sc d_X10_spreadFrom D (26, [some (.inr (.inl (some 29))), some (.inr (.inl (some 3))), none, some (.inl t), none, none, none], [], (J1, L, W), c, sl) Qr Qx := by
    intro r9
    induction r9 using Nat.strongRecOn with
    | ind r9 ih =>
      intro t n J1 t0 hr hx hn n0 hs i1 i2 i4 i3 i5
      have nr := sp_nu_rng hI (fun b => 0 ≤ b ∧ b < g 1 ∧ ¬ J1 30 b = -1) (-1) 0
      have done : n = 0 → Qr none (J1, L, W) := fun z => by
        have emp : ∀ b h, ¬ sp_q J1 b h := fun b h ⟨k, k0, k1, _⟩ => by omega
        refine hQ J1 hx (fun b b0 b1 => ?_)
        rcases i1 b b0 b1 with w | w
        · rw [w]
          unfold sp_enc
          by_cases y : sp_D g a b = 10000
          · rw [if_pos y]
          · obtain ⟨c, h, q1, _⟩ := sp_front hI i4 i3 _ b rfl (fun v => v.2.2 w) y
            exact absurd q1 (emp c h)
        · rw [w.1]
          unfold sp_enc
          rw [if_neg w.2]
      refine b_X10_spreadFrom_26 hD ⟨fun q => done (by omega), fun q => ?_⟩
      refine t_X2_take hn n0 (by omega) hs (fun z => ?_) (fun z J2 cc h hx2 h40 hn2 hs2 hq hmin hk hk2 => ?_)
      · exact b_X10_spreadFrom_39 ⟨fun y => absurd rfl y, fun _ => done z⟩
      · have i2c := i2 cc h hq
        have j30 : J2 30 = J1 30 := hx2 30 (by omega)
        have hx3 : ∀ x, ¬ (x = 30 ∨ (40 ≤ x ∧ x ≤ 42)) → J2 x = J x := fun x y => by rw [hx2 x (by omega)]; exact hx x y
        refine b_X10_spreadFrom_39 ⟨fun y => ⟨by omega, ?_⟩, fun y => by omega⟩
        rw [j30]
        refine ⟨fun y1 => ?_, fun y1 => ⟨by omega, ?_⟩⟩
        · have hDc : h = sp_D g a cc := by
            obtain ⟨c', h', q1, q2⟩ := sp_front hI i4 i3 _ cc rfl (fun v => v.2.2 y1) (by omega)
            have := hmin c' h' q1
            omega
          have bdc := sp_D_bd hI a cc
          have nnc := sp_D_nn hI a cc
          have inner : ∀ (r2 : Nat) (d n' : Int) (J3 : Nat → Int → Int), 0 ≤ d → d ≤ g 2 → (g 2 - d).toNat = r2 → (∀ x, ¬ (x = 30 ∨ (40 ≤ x ∧ x ≤ 42)) → J3 x = J x) → (∀ b, 0 ≤ b → b < g 1 → J3 30 b = if b = cc then h else J1 30 b) → J3 40 1 = n' → 0 ≤ n' → sp_qs J3 → (∀ b k, sp_q J3 b k → 0 ≤ b ∧ b < g 1 ∧ sp_D g a b ≤ k ∧ k ≤ 600) → (a = cc ∨ (0 ≤ a ∧ a < g 1 ∧ ¬ J1 30 a = -1) ∨ sp_q J3 a 0) → (∀ x b e, (x = cc ∨ (0 ≤ x ∧ x < g 1 ∧ ¬ J1 30 x = -1)) → 0 ≤ e → e < g 2 → sp_con g x b e → ¬ (b = cc ∨ (0 ≤ b ∧ b < g 1 ∧ ¬ J1 30 b = -1)) → (¬ x = cc ∨ e < d) → sp_q J3 b (sp_D g a x + g (36 + e))) → t + 1 + n' ≤ 1 + sp_nu g (fun b => b = cc ∨ (0 ≤ b ∧ b < g 1 ∧ ¬ J1 30 b = -1)) cc d → NW sc d_X10_spreadFrom D (79, [some (.inr (.inl (some 29))), some (.inr (.inl (some 3))), none, some (.inl t), some (.inl cc), some (.inl d), none], [], (J3, L, W), c, sl) Qr Qx := by
            intro r2
            induction r2 using Nat.strongRecOn with
            | ind r2 ih2 =>
              intro d n' J3 d0 d1 hr2 hx4 j3 hn3 n0' hs3 i2' i4' i3' i5'
              have n2 : J3 3 1 = g 2 := by rw [hx4 3 (by omega)]; exact hR.ch
              have nr2 := sp_nu_rng hI (fun b => b = cc ∨ (0 ≤ b ∧ b < g 1 ∧ ¬ J1 30 b = -1)) cc d
              have nu_le : sp_nu g (fun b => b = cc ∨ (0 ≤ b ∧ b < g 1 ∧ ¬ J1 30 b = -1)) cc d ≤ sp_nu g (fun b => b = cc ∨ (0 ≤ b ∧ b < g 1 ∧ ¬ J1 30 b = -1)) cc (d + 1) := by
                refine sp_sum_le (fun e _ _ => sp_b_mono ?_)
                unfold sp_used
                rintro (w | w | w)
                · exact Or.inl w
                · exact Or.inr (Or.inl w)
                · exact Or.inr (Or.inr ⟨w.1, by omega⟩)
              refine b_X10_spreadFrom_79 hD ?_
              rw [n2]
              refine ⟨fun q1 => ⟨by omega, ?_⟩, fun q1 => ?_⟩
              · have hd : d = g 2 := by omega
                subst hd
                have fin : ∀ b, (0 ≤ b ∧ b < g 1 ∧ ¬ J3 30 b = -1) ↔ (b = cc ∨ (0 ≤ b ∧ b < g 1 ∧ ¬ J1 30 b = -1)) := fun b => by
                  constructor
                  · intro w
                    rw [j3 b w.1 w.2.1] at w
                    by_cases v : b = cc
                    · exact Or.inl v
                    · rw [if_neg v] at w
                      exact Or.inr w
                  · rintro (w | w)
                    · rw [w, j3 cc (by omega) (by omega), if_pos rfl]
                      omega
                    · refine ⟨w.1, w.2.1, ?_⟩
                      rw [j3 b w.1 w.2.1]
                      split
                      · omega
                      · exact w.2.2
                refine ih _ (by omega) (t + 1) n' J3 (by omega) rfl hx4 hn3 n0' hs3 (fun b b0 b1 => ?_) i2' ?_ (fun x b e w e0 e1 e2 v => i3' x b e ((fin x).mp w) e0 e1 e2 (fun u => v ((fin b).mpr u)) (Or.inr e1)) ?_
                · rw [j3 b b0 b1]
                  by_cases v : b = cc
                  · rw [if_pos v, v]
                    exact Or.inr ⟨hDc, by omega⟩
                  · rw [if_neg v]
                    exact i1 b b0 b1
                · rcases i4' with w | w | w
                  · exact Or.inl ((fin a).mpr (Or.inl w))
                  · exact Or.inl ((fin a).mpr (Or.inr w))
                  · exact Or.inr w
                · have : sp_nu g (fun b => b = cc ∨ (0 ≤ b ∧ b < g 1 ∧ ¬ J1 30 b = -1)) cc (g 2) ≤ sp_nu g (fun b => 0 ≤ b ∧ b < g 1 ∧ ¬ J3 30 b = -1) (-1) 0 := by
                    refine sp_sum_le (fun e e0 e1 => sp_b_mono ?_)
                    have ce := hI.cha e e0 (by omega)
                    unfold sp_used
                    rintro (w | w | w)
                    · exact Or.inl ⟨(fin _).mpr w.1, by omega⟩
                    · exact Or.inr (Or.inl ⟨(fin _).mpr w.1, by omega⟩)
                    · rcases w.1 with u | u
                      · exact Or.inl ⟨(fin _).mpr (Or.inl u), by omega⟩
                      · exact Or.inr (Or.inl ⟨(fin _).mpr (Or.inl u), by omega⟩)
                  omega
              · have cr := hR.cha d d0 q1
                have ci := hI.cha d d0 q1
                have m5 : J3 5 d = g (16 + d) := by rw [hx4 5 (by omega)]; exact cr.1
                have m6 : J3 6 d = g (26 + d) := by rw [hx4 6 (by omega)]; exact cr.2.1
                have m7 : J3 7 d = g (36 + d) := by rw [hx4 7 (by omega)]; exact cr.2.2.1
                rw [m5, m6, m7]
                have f16 : J3 30 (g (16 + d)) = if g (16 + d) = cc then h else J1 30 (g (16 + d)) := j3 _ (by omega) (by omega)
                have f26 : J3 30 (g (26 + d)) = if g (26 + d) = cc then h else J1 30 (g (26 + d)) := j3 _ (by omega) (by omega)
                have fc : J3 30 cc = h := by rw [j3 cc (by omega) (by omega), if_pos rfl]
                have skip : (∀ b, sp_con g cc b d → (b = cc ∨ (0 ≤ b ∧ b < g 1 ∧ ¬ J1 30 b = -1))) → NW sc d_X10_spreadFrom D (79, [some (.inr (.inl (some 29))), some (.inr (.inl (some 3))), none, some (.inl t), some (.inl cc), some (.inl (d + 1)), none], [], (J3, L, W), c, sl) Qr Qx := fun w => by
                  refine ih2 _ (by omega) (d + 1) n' J3 (by omega) (by omega) rfl hx4 j3 hn3 n0' hs3 i2' i4' (fun x b e u e0 e1 e2 v s => ?_) (by omega)
                  by_cases y5 : x = cc ∧ e = d
                  · rw [y5.1, y5.2] at e2
                    exact absurd (w b e2) v
                  · exact i3' x b e u e0 e1 e2 v (by omega)
                have push : ∀ b, sp_con g cc b d → 0 ≤ b ∧ b < g 1 → ¬ (b = cc ∨ (0 ≤ b ∧ b < g 1 ∧ ¬ J1 30 b = -1)) → NW sc d_X2_put 0 (0, [some (.inr (.inl (some 40))), some (.inl b), some (.inl (h + g (36 + d))), none], [], (J3, L, W), 0, 0) (fun v M9 => NW sc d_X10_spreadFrom D (139, [some (.inr (.inl (some 29))), some (.inr (.inl (some 3))), none, some (.inl t), some (.inl cc), some (.inl d), none], nw_push v [], M9, c, sl) Qr Qx) Qx := fun b w wb v => by
                  refine t_X2_put hn3 n0' (by omega) hs3 (fun J4 hx5 _ hn4 hs4 p1 p2 p3 => ?_)
                  refine b_X10_spreadFrom_139 ⟨by omega, ?_⟩
                  have st := sp_D_step hI (a := a) d0 q1 w
                  refine ih2 _ (by omega) (d + 1) (n' + 1) J4 (by omega) (by omega) rfl (fun x y5 => by rw [hx5 x (by omega)]; exact hx4 x y5) (fun b' b0 b1 => by rw [hx5 30 (by omega)]; exact j3 b' b0 b1) hn4 (by omega) hs4 (fun b' k u => ?_) ?_ (fun x b' e u e0 e1 e2 v' s => ?_) ?_
                  · rcases p3 b' k u with u | u
                    · exact i2' b' k u
                    · rw [u.1, u.2]
                      omega
                  · rcases i4' with u | u | u
                    · exact Or.inl u
                    · exact Or.inr (Or.inl u)
                    · exact Or.inr (Or.inr (p1 _ _ u))
                  · by_cases y5 : x = cc ∧ e = d
                    · rw [y5.1, y5.2] at e2 ⊢
                      have eb : b' = b := by
                        unfold sp_con at w e2
                        omega
                      rw [eb, ← hDc]
                      exact p2
                    · exact p1 _ _ (i3' x b' e u e0 e1 e2 v' (by omega))
                  · have : sp_nu g (fun b => b = cc ∨ (0 ≤ b ∧ b < g 1 ∧ ¬ J1 30 b = -1)) cc d + 1 ≤ sp_nu g (fun b => b = cc ∨ (0 ≤ b ∧ b < g 1 ∧ ¬ J1 30 b = -1)) cc (d + 1) := by
                      refine sp_sum_lt d0 ?_ (by omega) (fun e _ _ => sp_b_mono ?_)
                      · have u1 : ¬ sp_used g (fun b => b = cc ∨ (0 ≤ b ∧ b < g 1 ∧ ¬ J1 30 b = -1)) cc d d := by
                          unfold sp_used
                          unfold sp_con at w
                          rintro (u | u | u)
                          · refine v ?_
                            rw [show b = g (16 + d) by omega]
                            exact u.1
                          · refine v ?_
                            rw [show b = g (26 + d) by omega]
                            exact u.1
                          · omega
                        have u2 : sp_used g (fun b => b = cc ∨ (0 ≤ b ∧ b < g 1 ∧ ¬ J1 30 b = -1)) cc (d + 1) d := by
                          unfold sp_used
                          unfold sp_con at w
                          exact Or.inr (Or.inr ⟨by omega, by omega⟩)
                        show sp_b _ + 1 ≤ sp_b _
                        rw [sp_bF u1, sp_bT u2]
                        decide
                      · unfold sp_used
                        rintro (u | u | u)
                        · exact Or.inl u
                        · exact Or.inr (Or.inl u)
                        · exact Or.inr (Or.inr ⟨u.1, by omega⟩)
                    omega
                refine ⟨⟨d0, by omega⟩, fun w1 => ⟨fun w2 => ⟨by omega, skip (fun b u => by unfold sp_con at u; omega)⟩, fun w2 => ⟨fun w3 => by omega, fun w3 => ⟨by omega, fun w4 => ⟨by omega, skip (fun b u => ?_)⟩, fun w4 => ⟨by omega, ?_⟩⟩⟩⟩, fun w1 => ⟨fun w3 => by omega, fun w3 => ⟨by omega, fun w4 => ⟨by omega, skip (fun b u => ?_)⟩, fun w4 => ⟨by omega, ?_⟩⟩⟩⟩
                · have eb : b = g (16 + d) := by unfold sp_con at u; omega
                  rw [eb]
                  rw [f16, if_neg w1] at w4
                  exact Or.inr ⟨by omega, by omega, w4⟩
                · rw [fc]
                  refine ⟨by omega, push _ (by unfold sp_con; omega) (by omega) (fun u => ?_)⟩
                  rw [f16, if_neg w1] at w4
                  rcases u with u | u
                  · exact w1 u
                  · exact u.2.2 w4
                · have eb : b = g (26 + d) := by unfold sp_con at u; omega
                  rw [eb]
                  rw [f26, if_neg (by omega)] at w4
                  exact Or.inr ⟨by omega, by omega, w4⟩
                · rw [fc]
                  refine ⟨by omega, push _ (by unfold sp_con; omega) (by omega) (fun u => ?_)⟩
                  rw [f26, if_neg (by omega)] at w4
                  rcases u with u | u
                  · omega
                  · exact u.2.2 w4
          rw [h40]
          have r1 : nw_u J2 30 cc h 40 = J2 40 := nw_uP (by decide)
          have r2 : nw_u J2 30 cc h 41 = J2 41 := nw_uP (by decide)
          have r3 : nw_u J2 30 cc h 42 = J2 42 := nw_uP (by decide)
          have qe : ∀ b k, sp_q (nw_u J2 30 cc h) b k ↔ sp_q J2 b k := fun b k => by
            unfold sp_q
            rw [r1, r2, r3]
          refine inner _ 0 (n - 1) _ (by omega) kh.1 rfl (fun x y5 => by rw [nw_uP (by omega)]; exact hx3 x y5) (fun b b0 b1 => ?_) (by rw [r1]; exact hn2) (by omega) ?_ (fun b k u => i2 b k (hk2 b k ((qe b k).mp u))) ?_ (fun x b e u e0 e1 e2 v s => ?_) ?_
          · rw [nw_u304, j30]
            rfl
          · unfold sp_qs
            rw [r1, r3]
            exact hs2
          · by_cases u : a = cc
            · exact Or.inl u
            · rcases i4 with w | w
              · exact Or.inr (Or.inl w)
              · rcases hk a 0 w with w | w
                · exact absurd w.1 u
                · exact Or.inr (Or.inr ((qe a 0).mpr w))
          · rcases u with u | u
            · rcases s with s | s
              · exact absurd u s
              · omega
            · have := i3 x b e u e0 e1 e2 (fun w => v (Or.inr w))
              rcases hk _ _ this with w | w
              · exact absurd (Or.inl w.1) v
              · exact (qe _ _).mpr w
          · have : sp_nu g (fun b => 0 ≤ b ∧ b < g 1 ∧ ¬ J1 30 b = -1) (-1) 0 ≤ sp_nu g (fun b => b = cc ∨ (0 ≤ b ∧ b < g 1 ∧ ¬ J1 30 b = -1)) cc 0 := by
              refine sp_sum_le (fun e e0 e1 => sp_b_mono ?_)
              have ce := hI.cha e e0 (by omega)
              unfold sp_used
              rintro (w | w | w)
              · exact Or.inl ⟨Or.inr w.1, fun u => by rw [u] at w; exact w.1.2.2 y1⟩
              · exact Or.inr (Or.inl ⟨Or.inr w.1, fun u => by rw [u] at w; exact w.1.2.2 y1⟩)
              · omega
            omega
        · have qq : ∀ b k, sp_q J1 b k → ¬ (0 ≤ b ∧ b < g 1 ∧ ¬ J1 30 b = -1) → sp_q J2 b k := fun b k u v => by
            rcases hk b k u with w | w
            · exact absurd ⟨by omega, by omega, by rw [w.1]; exact y1⟩ v
            · exact w
          refine ih _ (by omega) (t + 1) (n - 1) J2 (by omega) rfl hx3 hn2 (by omega) hs2 (fun b b0 b1 => by rw [j30]; exact i1 b b0 b1) (fun b k u => i2 b k (hk2 b k u)) ?_ (fun x b e u e0 e1 e2 v => ?_) (by rw [j30]; omega)
          · rw [j30]
            rcases i4 with w | w
            · exact Or.inl w
            · rcases Classical.em (0 ≤ a ∧ a < g 1 ∧ ¬ J1 30 a = -1) with u | u
              · exact Or.inl u
              · exact Or.inr (qq _ _ w u)
          · rw [j30] at u v
            exact qq _ _ (i3 x b e u e0 e1 e2 v) v
  refine b_X10_spreadFrom_0 hD (t_fill_30 (fun J1 hx1 hj1 => ?_))
  refine b_X10_spreadFrom_8 hD ?_
  have e1 : nw_u J1 40 1 0 40 1 = 0 := nw_uS
  have emp : ∀ b k, ¬ sp_q (nw_u J1 40 1 0) b k := fun b k ⟨z, z0, z1, _⟩ => by rw [e1] at z1; omega
  refine t_X2_put e1 (by omega) (by omega) (fun x y _ _ z => by rw [e1] at z; omega) (fun J2 hx2 _ hn2 hs2 p1 p2 p3 => ?_)
  have j30 : ∀ b, 0 ≤ b → b < 6 → J2 30 b = -1 := fun b b0 b1 => by
    rw [hx2 30 (by omega), nw_uN (by decide)]
    exact hj1 b b0 b1
  refine b_X10_spreadFrom_24 (outer _ 0 1 J2 (by omega) rfl (fun x y => by rw [hx2 x (by omega), nw_uP (by omega)]; exact hx1 x (by omega)) hn2 (by omega) hs2 (fun b b0 b1 => Or.inl (j30 b b0 (by omega))) (fun b k u => ?_) (Or.inr p2) (fun x b e u _ _ _ _ => absurd (j30 x u.1 (by omega)) u.2.2) ?_)
  · rcases p3 b k u with w | w
    · exact absurd w (emp b k)
    · rw [w.1, w.2, sp_D_ii hI]
      omega
  · have := sp_nu_rng hI (fun b => 0 ≤ b ∧ b < g 1 ∧ ¬ J2 30 b = -1) (-1) 0
    omega
end

