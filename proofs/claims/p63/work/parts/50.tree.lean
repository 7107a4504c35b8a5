/-! the tree of fares: contracts -/
section
variable {sc : Nat × (Nat → Int32)} {D : Nat} {J L : Nat → Int → Int} {W : nw_W} {c sl : Nat} {Qr : nw_QR} {Qx : nw_QX} {g : Int → Int} {B : Int}
theorem sp_sum_add {f h : Int → Int} : ∀ n : Nat, sp_sum (fun i => f i + h i) n = sp_sum f n + sp_sum h n
  | 0 => rfl
  | n + 1 => by
    rw [sp_sum, sp_sum, sp_sum, sp_sum_add n]
    omega
/-- how many of f 0 .. f (k - 1) lie between lo and hi; are v; are at most v; are less than x -/
def sp_cb (f : Int → Int) (lo hi : Int) (k : Nat) : Int := sp_sum (fun i => if lo < f i ∧ f i < hi then 1 else 0) k
def sp_ce (f : Int → Int) (v : Int) (k : Nat) : Int := sp_sum (fun i => if f i = v then 1 else 0) k
def sp_cle (f : Int → Int) (v : Int) (k : Nat) : Int := sp_sum (fun i => if f i ≤ v then 1 else 0) k
def sp_cl (f : Int → Int) (v : Int) (k : Nat) : Int := sp_sum (fun i => if f i < v then 1 else 0) k
theorem sp_cle_add {f : Int → Int} {a v : Int} (h : a < v) (k : Nat) : sp_cle f v k = sp_cle f a k + (sp_cb f a v k + sp_ce f v k) := by
  unfold sp_cle sp_cb sp_ce
  rw [← sp_sum_add, ← sp_sum_add]
  refine sp_sum_congr (fun i _ _ => ?_)
  by_cases z : f i ≤ a
  · rw [if_pos (by omega), if_pos z, if_neg (by omega), if_neg (by omega)]
    rfl
  · by_cases y : f i = v
    · rw [if_pos (by omega), if_neg z, if_neg (by omega), if_pos y]
      rfl
    · by_cases w : f i ≤ v
      · rw [if_pos w, if_neg z, if_pos (by omega), if_neg y]
        rfl
      · rw [if_neg w, if_neg z, if_neg (by omega), if_neg y]
        rfl
/-- the tree holds f 0 .. f (k - 1): n nodes, each with the interval of fares that come to it -/
def sp_TI (J : Nat → Int → Int) (k : Nat) (n : Int) (f lo hi : Int → Int) : Prop :=
  (J 28 3 = n ∧ 0 ≤ n ∧ n ≤ k ∧ k ≤ 10 ∧ (k = 0 ∨ 0 < n)) ∧ (lo 0 = -1000000 ∧ hi 0 = 1000000) ∧
  (∀ v, 0 ≤ v → v < n → lo v < J 47 v ∧ J 47 v < hi v ∧ J 48 v = sp_ce f (J 47 v) k ∧ J 49 v = sp_cb f (lo v) (J 47 v) k) ∧
  (∀ v, 0 ≤ v → v < n → (J 50 v = -1 ∧ ∀ i : Int, 0 ≤ i → i < k → ¬ (lo v < f i ∧ f i < J 47 v)) ∨ (v < J 50 v ∧ J 50 v < n ∧ lo (J 50 v) = lo v ∧ hi (J 50 v) = J 47 v)) ∧
  (∀ v, 0 ≤ v → v < n → (J 51 v = -1 ∧ ∀ i : Int, 0 ≤ i → i < k → ¬ (J 47 v < f i ∧ f i < hi v)) ∨ (v < J 51 v ∧ J 51 v < n ∧ lo (J 51 v) = J 47 v ∧ hi (J 51 v) = hi v)) ∧
  (∀ v, 0 < v → v < n → ∃ p, 0 ≤ p ∧ p < v ∧ (J 50 p = v ∨ J 51 p = v))
theorem sp_cnt_step {f : Int → Int} {lo hi v : Int} (k : Nat) : sp_cb f lo hi (k + 1) = sp_cb f lo hi k + (if lo < f k ∧ f k < hi then 1 else 0) ∧ sp_ce f v (k + 1) = sp_ce f v k + (if f k = v then 1 else 0) := ⟨rfl, rfl⟩
theorem sp_cb_0 {f : Int → Int} {lo hi : Int} {k : Nat} (h : ∀ i : Int, 0 ≤ i → i < k → ¬ (lo < f i ∧ f i < hi)) : sp_cb f lo hi k = 0 := sp_sum_0 (fun i a b => if_neg (h i a b))
theorem sp_ce_0 {f : Int → Int} {v : Int} {k : Nat} (h : ∀ i : Int, 0 ≤ i → i < k → ¬ f i = v) : sp_ce f v k = 0 := sp_sum_0 (fun i a b => if_neg (h i a b))
theorem sp_cb_rng (f : Int → Int) (lo hi : Int) (k : Nat) : 0 ≤ sp_cb f lo hi k ∧ sp_cb f lo hi k ≤ k := by
  have := sp_sum_bd (f := fun i => if lo < f i ∧ f i < hi then (1 : Int) else 0) (b := 1) (n := k) (fun i a b => by split <;> omega)
  unfold sp_cb
  omega
theorem sp_ce_rng (f : Int → Int) (v : Int) (k : Nat) : 0 ≤ sp_ce f v k ∧ sp_ce f v k ≤ k := by
  have := sp_sum_bd (f := fun i => if f i = v then (1 : Int) else 0) (b := 1) (n := k) (fun i a b => by split <;> omega)
  unfold sp_ce
  omega
theorem sp_cle_rng (f : Int → Int) (v : Int) (k : Nat) : 0 ≤ sp_cle f v k ∧ sp_cle f v k ≤ k := by
  have := sp_sum_bd (f := fun i => if f i ≤ v then (1 : Int) else 0) (b := 1) (n := k) (fun i a b => by split <;> omega)
  unfold sp_cle
  omega
def sp_ch (J : Nat → Int → Int) (y v : Int) : Int := if y < J 47 v then J 50 v else J 51 v
/-- every node whose interval holds y has been passed -/
theorem sp_path {J : Nat → Int → Int} {k : Nat} {n y u p : Int} {f lo hi : Int → Int} (T : sp_TI J k n f lo hi) {V : Int → Prop} (h0 : V 0 ∨ u = 0) (hu : u = -1 ∨ J 47 u = y) (hV : ∀ v, V v → 0 ≤ v ∧ v < n ∧ ¬ y = J 47 v ∧ (v = p ∨ V (sp_ch J y v))) (hp : V p → sp_ch J y p = u) : ∀ (m : Nat) (v : Int), v.toNat = m → 0 ≤ v → v < n → lo v < y → y < hi v → V v ∨ v = u := by
  obtain ⟨t1, t2, t3, t4, t5, t6⟩ := T
  intro m
  induction m using Nat.strongRecOn with
  | ind m ih =>
    intro v hm v0 v1 l h
    by_cases z : v = 0
    · subst z
      rcases h0 with q | q
      · exact Or.inl q
      · exact Or.inr q.symm
    · obtain ⟨q, q0, q1, q2⟩ := t6 v (by omega) v1
      have a3 := t3 q q0 (by omega)
      have a4 := t4 q q0 (by omega)
      have a5 := t5 q q0 (by omega)
      have iq : lo q < y ∧ y < hi q ∧ sp_ch J y q = v ∧ ¬ y = J 47 q := by
        rcases q2 with e | e
        · rw [e] at a4
          have : y < J 47 q := by omega
          refine ⟨by omega, by omega, ?_, by omega⟩
          unfold sp_ch
          rw [if_pos this]
          exact e
        · rw [e] at a5
          have : J 47 q < y := by omega
          refine ⟨by omega, by omega, ?_, by omega⟩
          unfold sp_ch
          rw [if_neg (by omega)]
          exact e
      rcases ih _ (by omega) q rfl q0 (by omega) iq.1 iq.2.1 with w | w
      · have hv := hV q w
        rcases hv.2.2.2 with e | e
        · rw [e] at iq
          rw [e] at w
          have := hp w
          rw [iq.2.2.1] at this
          exact Or.inr this
        · rw [iq.2.2.1] at e
          exact Or.inl e
      · rcases hu with e | e
        · omega
        · rw [w] at iq
          exact absurd e.symm iq.2.2.2
theorem t_X3_plant {k : Nat} {n : Int} {f lo hi : Int → Int} (T : sp_TI J k n f lo hi) (hk : k < 10) (hf : ∀ i : Int, 0 ≤ i → i ≤ k → -1000000 < f i ∧ f i < 1000000) (hD : 1 ≤ D) (hQ : ∀ J' n' lo' hi', (∀ x, ¬ (x = 28 ∨ (47 ≤ x ∧ x ≤ 51)) → J' x = J x) → (∀ s, ¬ s = 3 → J' 28 s = J 28 s) → sp_TI J' (k + 1) n' f lo' hi' → Qr none (J', L, W)) : NW sc d_X3_plant D (0, [some (.inr (.inl (some 28))), some (.inl (f k)), none, none, none, none], [], (J, L, W), c, sl) Qr Qx := by
  have T' := T
  obtain ⟨⟨t1a, t1b, t1c, t1d, t1e⟩, t2, t3, t4, t5, t6⟩ := T
  obtain ⟨y, hy⟩ : ∃ y, f (k : Int) = y := ⟨_, rfl⟩
  have fy := hf k (by omega) (Int.le_refl _)
  rw [hy] at fy
  rw [hy]
  refine b_X3_plant_0 ?_
  rw [t1a]
  -- the end at a free place
  have hang : ∀ (J1 : Nat → Int → Int) (V : Int → Prop) (p gl : Int), (∀ x, ¬ x = 49 → J1 x = J x) → (∀ v, 0 ≤ v → v < n → J1 49 v = J 49 v + sp_b (V v ∧ y < J 47 v)) → (∀ v, V v → 0 ≤ v ∧ v < n ∧ lo v < y ∧ y < hi v ∧ ¬ y = J 47 v ∧ (v = p ∨ V (sp_ch J y v))) → (n = 0 ∨ V 0) → (p = -1 ∧ n = 0 ∨ V p ∧ sp_ch J y p = -1 ∧ (gl = 1 ∧ y < J 47 p ∨ gl = 0 ∧ J 47 p < y)) → NW sc d_X3_hang 0 (0, [some (.inr (.inl (some 28))), some (.inl y), some (.inl p), some (.inl gl), none], [], (J1, L, W), 0, 0) (fun v M9 => NW sc d_X3_plant D (123, [none, none, none, none, none, none], nw_push v [], M9, c, sl) Qr Qx) Qx := by
    intro J1 V p gl hx h49 hV hV0 hpp
    refine b_X3_hang_0 ?_
    rw [hx 28 (by decide), t1a]
    -- the tree behind it, with its new node's interval
    have fin : ∀ (J2 : Nat → Int → Int) (a b : Int), (∀ x, ¬ (x = 28 ∨ (47 ≤ x ∧ x ≤ 51)) → J2 x = J1 x) → (∀ s, J2 28 s = if s = 3 then n + 1 else J 28 s) → (∀ v, J2 47 v = if v = n then y else J 47 v) → (∀ v, J2 48 v = if v = n then 1 else J 48 v) → (∀ v, J2 49 v = if v = n then 0 else J1 49 v) → (n = 0 ∧ a = -1000000 ∧ b = 1000000 ∧ J2 50 0 = -1 ∧ J2 51 0 = -1 ∨ V p ∧ y < J 47 p ∧ J 50 p = -1 ∧ a = lo p ∧ b = J 47 p ∧ (∀ v, J2 50 v = if v = p then n else if v = n then -1 else J 50 v) ∧ (∀ v, J2 51 v = if v = n then -1 else J 51 v) ∨ V p ∧ J 47 p < y ∧ J 51 p = -1 ∧ a = J 47 p ∧ b = hi p ∧ (∀ v, J2 51 v = if v = p then n else if v = n then -1 else J 51 v) ∧ (∀ v, J2 50 v = if v = n then -1 else J 50 v)) → NW sc d_X3_plant D (123, [none, none, none, none, none, none], nw_push none [], (J2, L, W), c, sl) Qr Qx := by
      intro J2 a b r0 r28 r47 r48 r49 alt
      refine b_X3_plant_123 (hQ J2 (n + 1) (fun v => if v = n then a else lo v) (fun v => if v = n then b else hi v) (fun x z => by rw [r0 x z, hx x (by omega)]) (fun s z => by rw [r28, if_neg z]) ?_)
      have path : ∀ v, 0 ≤ v → v < n → lo v < y → y < hi v → V v := fun v v0 v1 l h => by
        have hVp : n = 0 ∨ V 0 ∧ V p ∧ sp_ch J y p = -1 := by
          rcases hpp with q | q
          · exact Or.inl q.2
          · rcases hV0 with w | w
            · exact Or.inl w
            · exact Or.inr ⟨w, q.1, q.2.1⟩
        rcases hVp with q | q
        · omega
        · rcases sp_path (u := -1) (p := p) T' (Or.inl q.1) (Or.inl rfl) (fun v w => by have := hV v w; exact ⟨this.1, this.2.1, this.2.2.2.2.1, this.2.2.2.2.2⟩) (fun _ => q.2.2) _ v rfl v0 v1 l h with w | w
          · exact w
          · omega
      have free : ∀ i : Int, 0 ≤ i → i < k → ¬ (a < f i ∧ f i < b) := fun i i0 i1 => by
        rcases alt with q | q | q
        · omega
        · have := hV p q.1
          rcases t4 p this.1 this.2.1 with w | w
          · rw [q.2.2.2.1, q.2.2.2.2.1]
            exact w.2 i i0 i1
          · omega
        · have := hV p q.1
          rcases t5 p this.1 this.2.1 with w | w
          · rw [q.2.2.2.1, q.2.2.2.2.1]
            exact w.2 i i0 i1
          · omega
      have ay : a < y ∧ y < b := by
        rcases alt with q | q | q
        · omega
        · have := hV p q.1
          omega
        · have := hV p q.1
          omega
      refine ⟨⟨by rw [r28, if_pos rfl], by omega, by omega, by omega, Or.inr (by omega)⟩, ?_, fun v v0 v1 => ?_, fun v v0 v1 => ?_, fun v v0 v1 => ?_, fun v v0 v1 => ?_⟩
      · dsimp only
        by_cases z : (0 : Int) = n
        · rw [if_pos z, if_pos z]
          rcases alt with q | q | q
          · exact ⟨q.2.1, q.2.2.1⟩
          · have := hV p q.1; omega
          · have := hV p q.1; omega
        · rw [if_neg z, if_neg z]
          exact t2
      · dsimp only
        rw [r47, r48, r49]
        by_cases z : v = n
        · rw [if_pos z, if_pos z, if_pos z, if_pos z, if_pos z]
          refine ⟨ay.1, ay.2, ?_, ?_⟩
          · rw [(sp_cnt_step (lo := 0) (hi := 0) k).2, hy, if_pos rfl, sp_ce_0 (fun i i0 i1 e => free i i0 i1 (by omega))]
            rfl
          · rw [(sp_cnt_step (v := 0) k).1, hy, if_neg (by omega), sp_cb_0 (fun i i0 i1 e => free i i0 i1 (by omega))]
            rfl
        · rw [if_neg z, if_neg z, if_neg z, if_neg z, if_neg z]
          have a3 := t3 v v0 (by omega)
          have nk : ¬ J 47 v = y := fun e => by
            have := path v v0 (by omega) (by omega) (by omega)
            exact (hV v this).2.2.2.2.1 e.symm
          refine ⟨a3.1, a3.2.1, ?_, ?_⟩
          · rw [(sp_cnt_step (lo := 0) (hi := 0) k).2, hy, if_neg (fun e => nk e.symm), Int.add_zero]
            exact a3.2.2.1
          · rw [(sp_cnt_step (v := 0) k).1, hy, h49 v v0 (by omega), a3.2.2.2]
            by_cases w : lo v < y ∧ y < J 47 v
            · rw [if_pos w, sp_bT ⟨path v v0 (by omega) w.1 (by omega), w.2⟩]
            · rw [if_neg w, sp_bF (fun q => w ⟨(hV v q.1).2.2.1, q.2⟩)]
      · dsimp only
        by_cases z : v = n
        · have e50 : J2 50 v = -1 := by
            rcases alt with q | q | q
            · rw [z, q.1]; exact q.2.2.2.1
            · have := hV p q.1
              rw [q.2.2.2.2.2.1, if_neg (by omega), if_pos z]
            · rw [q.2.2.2.2.2.2, if_pos z]
          refine Or.inl ⟨e50, fun i i0 i1 => ?_⟩
          rw [if_pos z, r47, if_pos z]
          by_cases w : i = k
          · rw [w, hy]; omega
          · have := free i i0 (by omega)
            omega
        · have a4 := t4 v v0 (by omega)
          rw [if_neg z, r47, if_neg z]
          rcases alt with q | q | q
          · omega
          · have hvp := hV p q.1
            rw [q.2.2.2.2.2.1]
            by_cases w : v = p
            · rw [if_pos w, if_pos rfl, if_pos rfl, w, q.2.2.2.1, q.2.2.2.2.1]
              exact Or.inr ⟨by omega, by omega, rfl, rfl⟩
            · rw [if_neg w, if_neg z]
              rcases a4 with x | x
              · refine Or.inl ⟨x.1, fun i i0 i1 => ?_⟩
                by_cases t : i = k
                · rw [t, hy]
                  intro hh
                  have pv := path v v0 (by omega) hh.1 (by have := t3 v v0 (by omega); omega)
                  have hv := hV v pv
                  rcases hv.2.2.2.2.2 with e | e
                  · exact w e
                  · have c1 : sp_ch J y v = -1 := by unfold sp_ch; rw [if_pos hh.2]; exact x.1
                    rw [c1] at e
                    have := hV _ e
                    omega
                · exact x.2 i i0 (by omega)
              · rw [if_neg (by omega), if_neg (by omega)]
                exact Or.inr ⟨x.1, by omega, x.2.2.1, x.2.2.2⟩
          · have hvp := hV p q.1
            rw [q.2.2.2.2.2.2, if_neg z]
            rcases a4 with x | x
            · refine Or.inl ⟨x.1, fun i i0 i1 => ?_⟩
              by_cases t : i = k
              · rw [t, hy]
                intro hh
                have pv := path v v0 (by omega) hh.1 (by have := t3 v v0 (by omega); omega)
                have hv := hV v pv
                rcases hv.2.2.2.2.2 with e | e
                · rw [e] at hh; omega
                · have c1 : sp_ch J y v = -1 := by unfold sp_ch; rw [if_pos hh.2]; exact x.1
                  rw [c1] at e
                  have := hV _ e
                  omega
              · exact x.2 i i0 (by omega)
            · rw [if_neg (by omega), if_neg (by omega)]
              exact Or.inr ⟨x.1, by omega, x.2.2.1, x.2.2.2⟩
      · dsimp only
        by_cases z : v = n
        · have e51 : J2 51 v = -1 := by
            rcases alt with q | q | q
            · rw [z, q.1]; exact q.2.2.2.2
            · rw [q.2.2.2.2.2.2, if_pos z]
            · have := hV p q.1
              rw [q.2.2.2.2.2.1, if_neg (by omega), if_pos z]
          refine Or.inl ⟨e51, fun i i0 i1 => ?_⟩
          rw [if_pos z, r47, if_pos z]
          by_cases w : i = k
          · rw [w, hy]; omega
          · have := free i i0 (by omega)
            omega
        · have a5 := t5 v v0 (by omega)
          rw [if_neg z, r47, if_neg z]
          rcases alt with q | q | q
          · omega
          · have hvp := hV p q.1
            rw [q.2.2.2.2.2.2, if_neg z]
            rcases a5 with x | x
            · refine Or.inl ⟨x.1, fun i i0 i1 => ?_⟩
              by_cases t : i = k
              · rw [t, hy]
                intro hh
                have pv := path v v0 (by omega) (by have := t3 v v0 (by omega); omega) hh.2
                have hv := hV v pv
                rcases hv.2.2.2.2.2 with e | e
                · rw [e] at hh; omega
                · have c1 : sp_ch J y v = -1 := by unfold sp_ch; rw [if_neg (by omega)]; exact x.1
                  rw [c1] at e
                  have := hV _ e
                  omega
              · exact x.2 i i0 (by omega)
            · rw [if_neg (by omega), if_neg (by omega)]
              exact Or.inr ⟨x.1, by omega, x.2.2.1, x.2.2.2⟩
          · have hvp := hV p q.1
            rw [q.2.2.2.2.2.1]
            by_cases w : v = p
            · rw [if_pos w, if_pos rfl, if_pos rfl, w, q.2.2.2.1, q.2.2.2.2.1]
              exact Or.inr ⟨by omega, by omega, rfl, rfl⟩
            · rw [if_neg w, if_neg z]
              rcases a5 with x | x
              · refine Or.inl ⟨x.1, fun i i0 i1 => ?_⟩
                by_cases t : i = k
                · rw [t, hy]
                  intro hh
                  have pv := path v v0 (by omega) (by have := t3 v v0 (by omega); omega) hh.2
                  have hv := hV v pv
                  rcases hv.2.2.2.2.2 with e | e
                  · exact w e
                  · have c1 : sp_ch J y v = -1 := by unfold sp_ch; rw [if_neg (by omega)]; exact x.1
                    rw [c1] at e
                    have := hV _ e
                    omega
                · exact x.2 i i0 (by omega)
              · rw [if_neg (by omega), if_neg (by omega)]
                exact Or.inr ⟨x.1, by omega, x.2.2.1, x.2.2.2⟩
      · by_cases z : v = n
        · rcases alt with q | q | q
          · omega
          · have hvp := hV p q.1
            refine ⟨p, hvp.1, by omega, Or.inl ?_⟩
            rw [q.2.2.2.2.2.1, if_pos rfl]
            exact z.symm
          · have hvp := hV p q.1
            refine ⟨p, hvp.1, by omega, Or.inr ?_⟩
            rw [q.2.2.2.2.2.1, if_pos rfl]
            exact z.symm
        · obtain ⟨w, w0, w1, w2⟩ := t6 v v0 (by omega)
          refine ⟨w, w0, w1, ?_⟩
          rcases alt with q | q | q
          · omega
          · have hvp := hV p q.1
            rcases w2 with e | e
            · left
              rw [q.2.2.2.2.2.1, if_neg (fun x => by rw [x] at e; omega), if_neg (by omega)]
              exact e
            · right
              rw [q.2.2.2.2.2.2, if_neg (by omega)]
              exact e
          · have hvp := hV p q.1
            rcases w2 with e | e
            · left
              rw [q.2.2.2.2.2.2, if_neg (by omega)]
              exact e
            · right
              rw [q.2.2.2.2.2.1, if_neg (fun x => by rw [x] at e; omega), if_neg (by omega)]
              exact e
    refine ⟨fun _ => ⟨by omega, by omega, fun z => ⟨fun zg => ?_, fun zg => ?_⟩, fun z => ?_⟩, fun z => by omega⟩
    · rcases hpp with q | q
      · omega
      · have hvp := hV p q.1
        have c1 := q.2.1
        unfold sp_ch at c1
        rw [if_neg (by omega)] at c1
        refine ⟨by omega, fin _ (J 47 p) (hi p) (fun x w => by rw [nw_uP (by omega), nw_uP (by omega), nw_uP (by omega), nw_uP (by omega), nw_uP (by omega), nw_uP (by omega), nw_uP (by omega)]) (fun s => ?_) (fun v => ?_) (fun v => ?_) (fun v => ?_) (Or.inr (Or.inr ⟨q.1, by omega, c1, rfl, rfl, fun v => ?_, fun v => ?_⟩))⟩
        all_goals simp [nw_u]
        all_goals (try rw [hx _ (by decide)])
    · rcases hpp with q | q
      · omega
      · have hvp := hV p q.1
        have c1 := q.2.1
        unfold sp_ch at c1
        rw [if_pos (by omega)] at c1
        refine ⟨by omega, fin _ (lo p) (J 47 p) (fun x w => by rw [nw_uP (by omega), nw_uP (by omega), nw_uP (by omega), nw_uP (by omega), nw_uP (by omega), nw_uP (by omega), nw_uP (by omega)]) (fun s => ?_) (fun v => ?_) (fun v => ?_) (fun v => ?_) (Or.inr (Or.inl ⟨q.1, by omega, c1, rfl, rfl, fun v => ?_, fun v => ?_⟩))⟩
        all_goals simp [nw_u]
        all_goals (try rw [hx _ (by decide)])
    · rcases hpp with q | q
      · refine fin _ (-1000000) 1000000 (fun x w => by rw [nw_uP (by omega), nw_uP (by omega), nw_uP (by omega), nw_uP (by omega), nw_uP (by omega), nw_uP (by omega)]) (fun s => ?_) (fun v => ?_) (fun v => ?_) (fun v => ?_) (Or.inl ⟨q.2, rfl, rfl, ?_, ?_⟩)
        all_goals simp [nw_u]
        all_goals first
          | (intro h; omega)
          | rw [hx _ (by decide)]
          | skip
      · have := hV p q.1
        omega
  have bc : ∀ {P Q : Prop}, (P ↔ Q) → sp_b P = sp_b Q := fun h => by rw [propext h]
  have lp : ∀ (r : Nat) (u p gl lv : Int) (V : Int → Prop) (J1 : Nat → Int → Int), (10 - lv).toNat = r → 0 < n → (∀ x, ¬ x = 49 → J1 x = J x) → (∀ v, 0 ≤ v → v < n → J1 49 v = J 49 v + sp_b (V v ∧ y < J 47 v)) → (∀ v, V v → 0 ≤ v ∧ v < n ∧ lo v < y ∧ y < hi v ∧ ¬ y = J 47 v ∧ (v = p ∨ V (sp_ch J y v))) → (V 0 ∨ u = 0) → (V p → sp_ch J y p = u ∧ (gl = 1 ∧ y < J 47 p ∨ gl = 0 ∧ J 47 p < y)) → (u = -1 ∧ V p ∨ 0 ≤ u ∧ u < n ∧ lo u < y ∧ y < hi u ∧ (∀ v, V v → v < u) ∧ lv ≤ u) → 0 ≤ lv → lv ≤ 10 → NW sc d_X3_plant D (21, [some (.inr (.inl (some 28))), some (.inl y), some (.inl u), some (.inl p), some (.inl gl), some (.inl lv)], [], (J1, L, W), c, sl) Qr Qx := by
    intro r
    induction r using Nat.strongRecOn with
    | ind r ih =>
      intro u p gl lv V J1 hr n0 hx h49 hV hV0 hp hu lv0 lv1
      have leave : u = -1 → NW sc d_X3_hang 0 (0, [some (.inr (.inl (some 28))), some (.inl y), some (.inl p), some (.inl gl), none], [], (J1, L, W), 0, 0) (fun v M9 => NW sc d_X3_plant D (123, [none, none, none, none, none, none], nw_push v [], M9, c, sl) Qr Qx) Qx := fun z => by
        rcases hu with w | w
        · have hp' := hp w.2
          rw [z] at hp'
          refine hang J1 V p gl hx h49 hV (Or.inr ?_) (Or.inr ⟨w.2, hp'.1, hp'.2⟩)
          rcases hV0 with v | v
          · exact v
          · omega
        · omega
      refine b_X3_plant_21 hD ⟨fun q => leave (by omega), fun q => ⟨fun q1 => leave q1, fun q1 => ?_⟩⟩
      rcases hu with w | ⟨u0, u1, u2, u3, u4, u5⟩
      · exact absurd w.1 q1
      · have a3 := t3 u u0 u1
        have a4 := t4 u u0 u1
        have a5 := t5 u u0 u1
        have nVu : ¬ V u := fun w => by have := u4 u w; omega
        have g49 := h49 u u0 u1
        rw [sp_bF (fun w => nVu w.1)] at g49
        have rng9 := sp_cb_rng f (lo u) (J 47 u) k
        have rng8 := sp_ce_rng f (J 47 u) k
        rw [hx 47 (by decide), hx 48 (by decide), hx 50 (by decide), hx 51 (by decide)]
        have hV' : ¬ y = J 47 u → ∀ v, (V v ∨ v = u) → 0 ≤ v ∧ v < n ∧ lo v < y ∧ y < hi v ∧ ¬ y = J 47 v ∧ (v = u ∨ (V (sp_ch J y v) ∨ sp_ch J y v = u)) := fun ne v w => by
          rcases w with w | w
          · have := hV v w
            refine ⟨this.1, this.2.1, this.2.2.1, this.2.2.2.1, this.2.2.2.2.1, Or.inr ?_⟩
            rcases this.2.2.2.2.2 with e | e
            · right
              rw [e] at w ⊢
              exact (hp w).1
            · exact Or.inl e
          · rw [w]
            exact ⟨u0, u1, u2, u3, ne, Or.inl rfl⟩
        have hV0' : (V 0 ∨ (0 : Int) = u) := by
          rcases hV0 with w | w
          · exact Or.inl w
          · exact Or.inr w.symm
        refine ⟨⟨u0, by omega⟩, fun q2 => ⟨fun q3 => ⟨by omega, ?_⟩, fun q3 => ⟨by omega, by omega, ?_⟩⟩, fun q2 => ⟨by omega, ?_⟩⟩
        · refine ih _ (by omega) (J 51 u) u 0 (lv + 1) (fun v => V v ∨ v = u) J1 rfl n0 hx (fun v v0 v1 => ?_) (hV' (fun e => q2 e.symm)) (Or.inl hV0') (fun _ => ⟨?_, Or.inr ⟨rfl, by omega⟩⟩) ?_ (by omega) (by omega)
          · rw [h49 v v0 v1]
            by_cases e : v = u
            · rw [e, sp_bF (fun w => nVu w.1), sp_bF (fun w => by omega)]
            · rw [bc (P := V v ∧ y < J 47 v) (Q := (V v ∨ v = u) ∧ y < J 47 v) ⟨fun w => ⟨Or.inl w.1, w.2⟩, fun w => ⟨w.1.resolve_right e, w.2⟩⟩]
          · unfold sp_ch
            rw [if_neg (by omega)]
          · rcases a5 with w | w
            · exact Or.inl ⟨w.1, Or.inr rfl⟩
            · refine Or.inr ⟨by omega, w.2.1, by omega, by omega, fun v z => ?_, by omega⟩
              rcases z with z | z
              · have := u4 v z; omega
              · omega
        · refine ih _ (by omega) (J 50 u) u 1 (lv + 1) (fun v => V v ∨ v = u) _ rfl n0 (fun x z => by rw [nw_uP z]; exact hx x z) (fun v v0 v1 => ?_) (hV' (fun e => q2 e.symm)) (Or.inl hV0') (fun _ => ⟨?_, Or.inl ⟨rfl, q3⟩⟩) ?_ (by omega) (by omega)
          · rw [nw_u304]
            by_cases e : v = u
            · rw [e, sp_set_eq, g49, sp_bT ⟨Or.inr rfl, q3⟩]
              omega
            · rw [sp_set_ne e, h49 v v0 v1, bc (P := V v ∧ y < J 47 v) (Q := (V v ∨ v = u) ∧ y < J 47 v) ⟨fun w => ⟨Or.inl w.1, w.2⟩, fun w => ⟨w.1.resolve_right e, w.2⟩⟩]
          · unfold sp_ch
            rw [if_pos q3]
          · rcases a4 with w | w
            · exact Or.inl ⟨w.1, Or.inr rfl⟩
            · refine Or.inr ⟨by omega, w.2.1, by omega, by omega, fun v z => ?_, by omega⟩
              rcases z with z | z
              · have := u4 v z; omega
              · omega
        · have path : ∀ v, 0 ≤ v → v < n → lo v < y → y < hi v → V v ∨ v = u := fun v v0 v1 l h =>
            sp_path (u := u) (p := p) T' hV0 (Or.inr q2) (fun v w => by have := hV v w; exact ⟨this.1, this.2.1, this.2.2.2.2.1, this.2.2.2.2.2⟩) (fun w => (hp w).1) _ v rfl v0 v1 l h
          have r48 : ∀ v, nw_u J1 48 u (J 48 u + 1) 48 v = if v = u then J 48 u + 1 else J 48 v := fun v => by
            rw [nw_u304, hx 48 (by decide)]
            rfl
          refine hQ _ n lo hi (fun x z => by rw [nw_uP (by omega)]; exact hx x (by omega)) (fun s z => by rw [nw_uN (by decide), hx 28 (by decide)]) ⟨⟨by rw [nw_uN (by decide), hx 28 (by decide)]; exact t1a, by omega, by omega, by omega, Or.inr n0⟩, t2, fun v v0 v1 => ?_, fun v v0 v1 => ?_, fun v v0 v1 => ?_, fun v v0 v1 => ?_⟩
          · rw [nw_uN (by decide), hx 47 (by decide), r48, nw_uN (by decide), h49 v v0 v1]
            have b3 := t3 v v0 v1
            refine ⟨b3.1, b3.2.1, ?_, ?_⟩
            · rw [(sp_cnt_step (lo := 0) (hi := 0) k).2, hy]
              by_cases e : v = u
              · rw [if_pos e, e, if_pos q2.symm, a3.2.2.1]
              · rw [if_neg e, if_neg, Int.add_zero]
                · exact b3.2.2.1
                · intro ee
                  rcases path v v0 v1 (by omega) (by omega) with w | w
                  · exact (hV v w).2.2.2.2.1 ee
                  · exact e w
            · rw [(sp_cnt_step (v := 0) k).1, hy, b3.2.2.2]
              by_cases w : lo v < y ∧ y < J 47 v
              · rw [if_pos w]
                rcases path v v0 v1 w.1 (by omega) with z | z
                · rw [sp_bT ⟨z, w.2⟩]
                · rw [z] at w; omega
              · rw [if_neg w, sp_bF (fun q => w ⟨(hV v q.1).2.2.1, q.2⟩)]
          · rw [nw_uP (a := 48) (b := 47) (by decide), hx 47 (by decide), nw_uP (a := 48) (b := 50) (by decide), hx 50 (by decide)]
            rcases t4 v v0 v1 with x | x
            · refine Or.inl ⟨x.1, fun i i0 i1 => ?_⟩
              by_cases t : i = k
              · rw [t, hy]
                intro hh
                have := t3 v v0 v1
                rcases path v v0 v1 hh.1 (by omega) with w | w
                · have hv := hV v w
                  have c1 : sp_ch J y v = -1 := by unfold sp_ch; rw [if_pos hh.2]; exact x.1
                  rcases hv.2.2.2.2.2 with e | e
                  · rw [e] at w c1
                    rw [(hp w).1] at c1
                    omega
                  · rw [c1] at e
                    have := hV _ e
                    omega
                · rw [w] at hh; omega
              · exact x.2 i i0 (by omega)
            · exact Or.inr x
          · rw [nw_uP (a := 48) (b := 47) (by decide), hx 47 (by decide), nw_uP (a := 48) (b := 51) (by decide), hx 51 (by decide)]
            rcases t5 v v0 v1 with x | x
            · refine Or.inl ⟨x.1, fun i i0 i1 => ?_⟩
              by_cases t : i = k
              · rw [t, hy]
                intro hh
                have := t3 v v0 v1
                rcases path v v0 v1 (by omega) hh.2 with w | w
                · have hv := hV v w
                  have c1 : sp_ch J y v = -1 := by unfold sp_ch; rw [if_neg (by omega)]; exact x.1
                  rcases hv.2.2.2.2.2 with e | e
                  · rw [e] at w c1
                    rw [(hp w).1] at c1
                    omega
                  · rw [c1] at e
                    have := hV _ e
                    omega
                · rw [w] at hh; omega
              · exact x.2 i i0 (by omega)
            · exact Or.inr x
          · rw [nw_uP (by decide), nw_uP (by decide), hx 50 (by decide), hx 51 (by decide)]
            exact t6 v v0 v1
  refine ⟨fun z => ?_, fun z => ?_⟩
  · refine lp _ 0 (-1) 0 0 (fun _ => False) J rfl (by omega) (fun _ _ => rfl) (fun v _ _ => by rw [sp_bF (fun w => w.1), Int.add_zero]) (fun v w => w.elim) (Or.inr rfl) (fun w => w.elim) (Or.inr ⟨by omega, by omega, by omega, by omega, fun v w => w.elim, by omega⟩) (by omega) (by omega)
  · refine b_X3_plant_21 hD ⟨fun q => by omega, fun q => ⟨fun _ => ?_, fun q1 => absurd rfl q1⟩⟩
    exact hang J (fun _ => False) (-1) 0 (fun _ _ => rfl) (fun v v0 v1 => by omega) (fun v w => w.elim) (Or.inl z) (Or.inl ⟨rfl, z⟩)
theorem t_X3_growTree {n : Nat} {f : Int → Int} (hn : J 28 2 = n) (hn2 : n ≤ 10) (hf : ∀ i : Int, 0 ≤ i → i < n → J 46 i = f i) (hb : ∀ i : Int, 0 ≤ i → i < n → -1000000 < f i ∧ f i < 1000000) (hD : 2 ≤ D) (hQ : ∀ J' k lo hi, (∀ x, ¬ (x = 28 ∨ (47 ≤ x ∧ x ≤ 51)) → J' x = J x) → (∀ s, ¬ s = 3 → J' 28 s = J 28 s) → sp_TI J' n k f lo hi → Qr none (J', L, W)) : NW sc d_X3_growTree D (0, [some (.inr (.inl (some 28))), none], [], (J, L, W), c, sl) Qr Qx := by
  refine b_X3_growTree_0 ?_
  have lp : ∀ (r : Nat) (i : Nat) (k : Int) (lo hi : Int → Int) (J1 : Nat → Int → Int), i ≤ n → n - i = r → (∀ x, ¬ (x = 28 ∨ (47 ≤ x ∧ x ≤ 51)) → J1 x = J x) → (∀ s, ¬ s = 3 → J1 28 s = J 28 s) → sp_TI J1 i k f lo hi → NW sc d_X3_growTree D (7, [some (.inr (.inl (some 28))), some (.inl ((i : Int)))], [], (J1, L, W), c, sl) Qr Qx := by
    intro r
    induction r with
    | zero =>
      intro i k lo hi J1 h0 hr hx h28 T
      have n2 : J1 28 2 = n := by rw [h28 2 (by decide)]; exact hn
      refine b_X3_growTree_7 hD ?_
      rw [n2]
      have e : i = n := by omega
      subst e
      exact ⟨fun _ => hQ J1 k lo hi hx h28 T, fun q => by omega⟩
    | succ r ih =>
      intro i k lo hi J1 h0 hr hx h28 T
      have n2 : J1 28 2 = n := by rw [h28 2 (by decide)]; exact hn
      refine b_X3_growTree_7 hD ?_
      rw [n2]
      refine ⟨fun q => by omega, fun q => ⟨by omega, ?_⟩⟩
      rw [hx 46 (by omega), hf i (by omega) q]
      refine t_X3_plant T (by omega) (fun j a b => hb j a (by omega)) (by decide) (fun J2 k' lo' hi' hx2 h28' T2 => ?_)
      refine b_X3_growTree_25 ⟨by omega, ?_⟩
      have := ih (i + 1) k' lo' hi' J2 (by omega) (by omega) (fun x z => (hx2 x z).trans (hx x z)) (fun s z => (h28' s z).trans (h28 s z)) T2
      rw [show ((i + 1 : Nat) : Int) = (i : Int) + 1 by omega] at this
      exact this
  exact lp n 0 0 (fun _ => -1000000) (fun _ => 1000000) _ (by omega) (by omega) (fun x z => nw_uP (by omega)) (fun s z => nw_uI z) ⟨⟨nw_uS, by omega, by omega, by omega, Or.inl rfl⟩, ⟨rfl, rfl⟩, fun v a b => by omega, fun v a b => by omega, fun v a b => by omega, fun v a b => by omega⟩
theorem t_X3_lessInTree {k : Nat} {n x : Int} {f lo hi : Int → Int} (T : sp_TI J k n f lo hi) (hb : ∀ i : Int, 0 ≤ i → i < k → -1000000 < f i ∧ f i < 1000000) (hQ : Qr (some (.inl (sp_cl f x k))) (J, L, W)) : NW sc d_X3_lessInTree D (0, [some (.inr (.inl (some 28))), some (.inl x), none, none, none], [], (J, L, W), c, sl) Qr Qx := by
  obtain ⟨⟨t1a, t1b, t1c, t1d, t1e⟩, t2, t3, t4, t5, t6⟩ := T
  have fin : ∀ a b acc, acc = sp_cle f a k → (∀ i : Int, 0 ≤ i → i < k → f i ≤ a → f i < x) → (∀ i : Int, 0 ≤ i → i < k → b ≤ f i → x ≤ f i) → (∀ i : Int, 0 ≤ i → i < k → ¬ (a < f i ∧ f i < b)) → Qr (some (.inl acc)) (J, L, W) := fun a b acc h1 h2 h3 h4 => by
    have : acc = sp_cl f x k := by
      rw [h1]
      refine sp_sum_congr (fun i i0 i1 => ?_)
      have k2 := h2 i i0 i1
      have k3 := h3 i i0 i1
      have k4 := h4 i i0 i1
      by_cases z : f i ≤ a
      · rw [if_pos z, if_pos (k2 z)]
      · rw [if_neg z, if_neg (by omega)]
    rw [this]
    exact hQ
  have lp : ∀ (r : Nat) (u acc lv a b : Int), (10 - lv).toNat = r → 0 ≤ lv → lv ≤ 10 → acc = sp_cle f a k → (∀ i : Int, 0 ≤ i → i < k → f i ≤ a → f i < x) → (∀ i : Int, 0 ≤ i → i < k → b ≤ f i → x ≤ f i) → (u = -1 ∧ (∀ i : Int, 0 ≤ i → i < k → ¬ (a < f i ∧ f i < b)) ∨ 0 ≤ u ∧ u < n ∧ lo u = a ∧ hi u = b ∧ lv ≤ u) → NW sc d_X3_lessInTree D (18, [some (.inr (.inl (some 28))), some (.inl x), some (.inl acc), some (.inl u), some (.inl lv)], [], (J, L, W), c, sl) Qr Qx := by
    intro r
    induction r using Nat.strongRecOn with
    | ind r ih =>
      intro u acc lv a b hr l0 l1 h1 h2 h3 h4
      have leave : u = -1 → Qr (some (.inl acc)) (J, L, W) := fun z => by
        rcases h4 with w | w
        · exact fin a b acc h1 h2 h3 w.2
        · omega
      refine b_X3_lessInTree_18 ⟨fun q => leave (by omega), fun q => ⟨fun q1 => leave q1, fun q1 => ?_⟩⟩
      rcases h4 with w | ⟨u0, u1, u2, u3, u4⟩
      · exact absurd w.1 q1
      · have a3 := t3 u u0 u1
        have a4 := t4 u u0 u1
        have a5 := t5 u u0 u1
        rw [u2, u3] at a3
        rw [u2] at a4
        rw [u3] at a5
        have s1 := sp_cle_add a3.1 (f := f) k
        have r1 := sp_cle_rng f a k
        have r2 := sp_cb_rng f a (J 47 u) k
        have r3 := sp_ce_rng f (J 47 u) k
        refine ⟨⟨u0, by omega⟩, fun q2 => ⟨by omega, by omega, by omega, ?_⟩, fun q2 => ⟨by omega, ?_⟩⟩
        · refine ih _ (by omega) (J 51 u) _ (lv + 1) (J 47 u) b rfl (by omega) (by omega) (by omega) (fun i i0 i1 z => by omega) h3 ?_
          rcases a5 with w | w
          · exact Or.inl w
          · exact Or.inr ⟨by omega, w.2.1, w.2.2.1, w.2.2.2, by omega⟩
        · refine ih _ (by omega) (J 50 u) _ (lv + 1) a (J 47 u) rfl (by omega) (by omega) h1 h2 (fun i i0 i1 z => by omega) ?_
          rcases a4 with w | w
          · exact Or.inl w
          · exact Or.inr ⟨by omega, w.2.1, w.2.2.1, w.2.2.2, by omega⟩
  have z0 : (0 : Int) = sp_cle f (-1000000) k := (sp_sum_0 (fun i i0 i1 => if_neg (by have := hb i i0 i1; omega))).symm
  refine b_X3_lessInTree_0 ?_
  rw [t1a]
  refine ⟨fun q => lp _ 0 0 0 (-1000000) 1000000 rfl (by omega) (by omega) z0 (fun i i0 i1 z => by have := hb i i0 i1; omega) (fun i i0 i1 z => by have := hb i i0 i1; omega) (Or.inr ⟨by omega, by omega, t2.1, t2.2, by omega⟩), fun q => lp _ (-1) 0 0 (-1000000) 1000000 rfl (by omega) (by omega) z0 (fun i i0 i1 z => by have := hb i i0 i1; omega) (fun i i0 i1 z => by have := hb i i0 i1; omega) (Or.inl ⟨rfl, fun i i0 i1 => by omega⟩)⟩
end

