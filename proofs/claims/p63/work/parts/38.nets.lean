/-! connected craters, and how many parts there are -/
section
theorem sp_b_congr {P Q : Prop} (h : P ↔ Q) : sp_b P = sp_b Q := by rw [propext h]
theorem sp_sum_le' {f h : Int → Int} : ∀ {n : Nat}, (∀ i : Int, 0 ≤ i → i < n → f i ≤ h i) → sp_sum f n ≤ sp_sum h n
  | 0, _ => Int.le_refl _
  | n + 1, e => by
    rw [sp_sum, sp_sum]
    have := sp_sum_le' (n := n) (fun i a b => e i a (by omega))
    have := e n (by omega) (by omega)
    omega
def sp_cw (g : Int → Int) (P : Int → Prop) : Nat → Int → Int → Prop
  | 0, a, b => a = b
  | k + 1, a, b => ∃ e x, 0 ≤ e ∧ e < g 2 ∧ P e ∧ sp_con g x b e ∧ sp_cw g P k a x
/-- a way from a to b over channels of P -/
def sp_cn (g : Int → Int) (P : Int → Prop) (a b : Int) : Prop := ∃ k, sp_cw g P k a b
theorem sp_con_sym {g : Int → Int} {a b e : Int} (h : sp_con g a b e) : sp_con g b a e := by
  unfold sp_con at h ⊢
  omega
section
variable {g : Int → Int} {P Q : Int → Prop} {a b d : Int}
theorem sp_cn_refl : sp_cn g P a a := ⟨0, rfl⟩
theorem sp_cw_cat {k : Nat} (h : sp_cw g P k a b) : ∀ {l : Nat} {d : Int}, sp_cw g P l b d → sp_cn g P a d
  | 0, d, q => by
    cases q
    exact ⟨k, h⟩
  | l + 1, d, ⟨e, x, e0, e1, e2, e3, q⟩ => by
    obtain ⟨m, w⟩ := sp_cw_cat h q
    exact ⟨m + 1, e, x, e0, e1, e2, e3, w⟩
theorem sp_cn_trans (h : sp_cn g P a b) (q : sp_cn g P b d) : sp_cn g P a d := by
  obtain ⟨k, h⟩ := h
  obtain ⟨l, q⟩ := q
  exact sp_cw_cat h q
theorem sp_cn_edge {e : Int} (e0 : 0 ≤ e) (e1 : e < g 2) (e2 : P e) (e3 : sp_con g a b e) : sp_cn g P a b := ⟨1, e, a, e0, e1, e2, e3, rfl⟩
theorem sp_cn_sym (h : sp_cn g P a b) : sp_cn g P b a := by
  obtain ⟨k, h⟩ := h
  induction k generalizing b with
  | zero => exact ⟨0, h.symm⟩
  | succ k ih =>
    obtain ⟨e, x, e0, e1, e2, e3, q⟩ := h
    exact sp_cn_trans (sp_cn_edge e0 e1 e2 (sp_con_sym e3)) (ih q)
theorem sp_cn_mono (hPQ : ∀ e, 0 ≤ e → e < g 2 → P e → Q e) (h : sp_cn g P a b) : sp_cn g Q a b := by
  obtain ⟨k, h⟩ := h
  induction k generalizing b with
  | zero => exact ⟨0, h⟩
  | succ k ih =>
    obtain ⟨e, x, e0, e1, e2, e3, q⟩ := h
    exact sp_cn_trans (ih q) (sp_cn_edge e0 e1 (hPQ e e0 e1 e2) e3)
/-- what every channel of P keeps, every way keeps -/
theorem sp_cn_keep {R : Int → Prop} (hR : ∀ e x y, 0 ≤ e → e < g 2 → P e → sp_con g x y e → R x → R y) (h : sp_cn g P a b) (ha : R a) : R b := by
  obtain ⟨k, h⟩ := h
  induction k generalizing b with
  | zero => exact h ▸ ha
  | succ k ih =>
    obtain ⟨e, x, e0, e1, e2, e3, q⟩ := h
    exact hR e x b e0 e1 e2 e3 (ih q)
end
/-- the first of its part; how many parts; how many parts meet S -/
def sp_rep (C : Int → Int → Prop) (v : Int) : Prop := ∀ u, 0 ≤ u → u < v → ¬ C u v
noncomputable def sp_np (C : Int → Int → Prop) (n : Nat) : Int := sp_sum (fun v => sp_b (sp_rep C v)) n
noncomputable def sp_nk (C : Int → Int → Prop) (S : Int → Prop) (n : Nat) : Int := sp_sum (fun v => sp_b (sp_rep C v ∧ ∃ s, S s ∧ C v s)) n
theorem sp_np_congr {C D : Int → Int → Prop} {n : Nat} (h : ∀ u v : Int, 0 ≤ u → u < n → 0 ≤ v → v < n → (C u v ↔ D u v)) : sp_np C n = sp_np D n := by
  refine sp_sum_congr (fun v v0 v1 => sp_b_congr ?_)
  constructor
  · exact fun q u u0 u1 w => q u u0 u1 ((h u v u0 (by omega) v0 v1).mpr w)
  · exact fun q u u0 u1 w => q u u0 u1 ((h u v u0 (by omega) v0 v1).mp w)
theorem sp_np_rng (C : Int → Int → Prop) (n : Nat) : 0 ≤ sp_np C n ∧ sp_np C n ≤ n := by
  have := sp_sum_bd (f := fun v => sp_b (sp_rep C v)) (b := 1) (n := n) (fun i _ _ => sp_b_rng _)
  unfold sp_np
  omega
theorem sp_rep_ex {C : Int → Int → Prop} (tr : ∀ a b c, C a b → C b c → C a c) {w : Int} (w0 : 0 ≤ w) (rw_ : C w w) : ∃ r, 0 ≤ r ∧ r ≤ w ∧ C r w ∧ sp_rep C r := by
  obtain ⟨r, hr⟩ := sp_first_ex (fun u => C u w) (w + 1)
  rcases hr with ⟨_, h⟩ | ⟨h0, h1, h2, h3⟩
  · exact absurd rw_ (h w w0 (by omega))
  · exact ⟨r, h0, by omega, h2, fun u u0 u1 q => h3 u u0 u1 (tr _ _ _ q h2)⟩
/-- two parts of equal labels joined: one part less -/
theorem sp_np_join {lab lab' : Int → Int} {n : Nat} {p q a b : Int} (hpq : ¬ p = q) (ha : 0 ≤ a ∧ a < n ∧ lab a = p) (hb : 0 ≤ b ∧ b < n ∧ lab b = q) (hl : ∀ v : Int, 0 ≤ v → v < n → lab' v = if lab v = q then p else lab v) : sp_np (fun u v => lab' u = lab' v) n = sp_np (fun u v => lab u = lab v) n - 1 := by
  obtain ⟨i, i0, i1, i2, i3⟩ := sp_rep_ex (C := fun u v => lab u = lab v) (fun _ _ _ h k => h.trans k) ha.1 rfl
  obtain ⟨j, j0, j1, j2, j3⟩ := sp_rep_ex (C := fun u v => lab u = lab v) (fun _ _ _ h k => h.trans k) hb.1 rfl
  have ip : lab i = p := i2.trans ha.2.2
  have jq : lab j = q := j2.trans hb.2.2
  have hij : ¬ i = j := fun e => hpq (by rw [← ip, ← jq, e])
  have rp : ∀ u, 0 ≤ u → u < i → ¬ lab u = p := fun u u0 u1 e => i3 u u0 u1 (e.trans ip.symm)
  have rq : ∀ u, 0 ≤ u → u < j → ¬ lab u = q := fun u u0 u1 e => j3 u u0 u1 (e.trans jq.symm)
  obtain ⟨w, hw⟩ : ∃ w, w = if i < j then j else i := ⟨_, rfl⟩
  have hl' : ∀ u v : Int, 0 ≤ u → u < n → 0 ≤ v → v < n → (lab' u = lab' v ↔ (lab u = lab v ∨ ((lab u = p ∨ lab u = q) ∧ (lab v = p ∨ lab v = q)))) := fun u v a1 a2 a3 a4 => by
    rw [hl u a1 a2, hl v a3 a4]
    by_cases e1 : lab u = q
    · by_cases e2 : lab v = q
      · rw [if_pos e1, if_pos e2]; omega
      · rw [if_pos e1, if_neg e2]; omega
    · by_cases e2 : lab v = q
      · rw [if_neg e1, if_pos e2]; omega
      · rw [if_neg e1, if_neg e2]; omega
  have w0 : 0 ≤ w ∧ w < n := by rw [hw]; split <;> omega
  have wr : sp_rep (fun u v => lab u = lab v) w := by rw [hw]; split <;> assumption
  have wn : ¬ sp_rep (fun u v => lab' u = lab' v) w := fun h => by
    rw [hw] at h
    split at h
    · exact h i i0 (by omega) ((hl' i j i0 (by omega) j0 (by omega)).mpr (by omega))
    · exact h j j0 (by omega) ((hl' j i j0 (by omega) i0 (by omega)).mpr (by omega))
  unfold sp_np
  rw [sp_sum_upd (f := fun v => sp_b (sp_rep (fun u v => lab u = lab v) v)) w0.1 (fun v v0 v1 hv => sp_b_congr ?_), if_pos w0.2, sp_bT wr, sp_bF wn]
  · omega
  · constructor
    · intro h u u0 u1 e
      exact h u u0 u1 ((hl' u v u0 (by omega) v0 v1).mpr (Or.inl e))
    · intro h u u0 u1 e
      rcases (hl' u v u0 (by omega) v0 v1).mp e with z | z
      · exact h u u0 u1 z
      · have hv2 : v = i ∨ v = j := by
          rcases z.2 with y | y
          · left
            rcases Int.lt_trichotomy v i with x | x | x
            · exact absurd y (rp v v0 x)
            · exact x
            · exact absurd (ip.trans y.symm) (h i i0 x)
          · right
            rcases Int.lt_trichotomy v j with x | x | x
            · exact absurd y (rq v v0 x)
            · exact x
            · exact absurd (jq.trans y.symm) (h j j0 x)
        have hmin : v = i ∧ i < j ∨ v = j ∧ j < i := by
          rw [hw] at hv
          split at hv <;> omega
        rcases z.1 with y | y
        · have : ¬ u < i := fun x => rp u u0 x y
          rcases hmin with ⟨m1, m2⟩ | ⟨m1, m2⟩ <;> omega
        · have : ¬ u < j := fun x => rq u u0 x y
          rcases hmin with ⟨m1, m2⟩ | ⟨m1, m2⟩ <;> omega
theorem sp_nk_same {C : Int → Int → Prop} {S : Int → Prop} {w u : Int} {n : Nat} (tr : ∀ a b c, C a b → C b c → C a c) (sy : ∀ a b, C a b → C b a) (hu : S u) (h : C u w) : sp_nk C (fun s => S s ∨ s = w) n = sp_nk C S n := by
  refine sp_sum_congr (fun v v0 v1 => sp_b_congr ?_)
  constructor
  · rintro ⟨r, s, hs, hc⟩
    rcases hs with hs | hs
    · exact ⟨r, s, hs, hc⟩
    · exact ⟨r, u, hu, tr _ _ _ (hs ▸ hc) (sy _ _ h)⟩
  · rintro ⟨r, s, hs, hc⟩
    exact ⟨r, s, Or.inl hs, hc⟩
theorem sp_nk_more {C : Int → Int → Prop} {S : Int → Prop} {w : Int} {n : Nat} (tr : ∀ a b c, C a b → C b c → C a c) (sy : ∀ a b, C a b → C b a) (re : C w w) (w0 : 0 ≤ w) (w1 : w < n) (h : ∀ u, S u → ¬ C u w) : sp_nk C (fun s => S s ∨ s = w) n = sp_nk C S n + 1 := by
  obtain ⟨r, r0, r1, r2, r3⟩ := sp_rep_ex tr w0 re
  unfold sp_nk
  rw [sp_sum_upd (f := fun v => sp_b (sp_rep C v ∧ ∃ s, S s ∧ C v s)) r0 (fun v v0 v1 hv => sp_b_congr ?_), if_pos (by omega), sp_bT ⟨r3, w, Or.inr rfl, r2⟩, sp_bF (fun q => ?_)]
  · rfl
  · obtain ⟨s, hs, hc⟩ := q.2
    exact h s hs (tr _ _ _ (sy _ _ hc) r2)
  · constructor
    · rintro ⟨x, s, hs, hc⟩
      rcases hs with hs | hs
      · exact ⟨x, s, hs, hc⟩
      · rw [hs] at hc
        exfalso
        rcases Int.lt_trichotomy v r with y | y | y
        · exact r3 v v0 y (tr _ _ _ hc (sy _ _ r2))
        · exact hv y
        · exact x r r0 y (tr _ _ _ r2 (sy _ _ hc))
    · rintro ⟨x, s, hs, hc⟩
      exact ⟨x, s, Or.inl hs, hc⟩
theorem sp_nk_all {C : Int → Int → Prop} {S : Int → Prop} {n : Nat} (re : ∀ a, C a a) (h : ∀ v : Int, 0 ≤ v → v < n → S v) : sp_nk C S n = sp_np C n :=
  sp_sum_congr (fun v v0 v1 => sp_b_congr ⟨fun q => q.1, fun q => ⟨q, v, h v v0 v1, re v⟩⟩)
/-- the parts over channels of at most t hours; the least sum of hours that joins all -/
noncomputable def sp_nt (g : Int → Int) (t : Int) : Int := sp_np (sp_cn g (fun e => g (36 + e) ≤ t)) (g 1).toNat
noncomputable def sp_nsum (g : Int → Int) : Int := sp_sum (fun t => sp_nt g t - sp_nt g 9) 10
/-- sums up to a bound -/
theorem sp_sum_split {f : Int → Int} {a b : Nat} (h : a ≤ b) (z : ∀ t : Int, a ≤ t → t < b → f t = 0) : sp_sum f b = sp_sum f a := by
  induction b with
  | zero => rw [show a = 0 by omega]
  | succ b ih =>
    by_cases e : a = b + 1
    · rw [e]
    · rw [sp_sum, ih (by omega) (fun t t0 t1 => z t t0 (by omega)), z b (by omega) (by omega)]
      omega
theorem sp_sum_shift {f h : Int → Int} {d : Int} : ∀ {n : Nat}, (∀ i : Int, 0 ≤ i → i < n → h i = f i + d) → sp_sum h n = sp_sum f n + n * d
  | 0, _ => by simp [sp_sum]
  | n + 1, e => by
    rw [sp_sum, sp_sum, sp_sum_shift (n := n) (fun i a b => e i a (by omega)), e n (by omega) (by omega)]
    have : ((n + 1 : Nat) : Int) * d = n * d + d := by rw [Int.natCast_add, Int.add_mul]; simp
    rw [this]
    omega
/-- a state of growing by order: labels tell the parts over P, m parts, the sum up to threshold l -/
def sp_kr (g : Int → Int) (lab : Int → Int) (P : Int → Prop) (m sum l : Int) : Prop :=
  (∀ x y, 0 ≤ x → x < g 1 → 0 ≤ y → y < g 1 → lab x = lab y → sp_cn g P x y) ∧
  (∀ e, 0 ≤ e → e < g 2 → P e → lab (g (16 + e)) = lab (g (26 + e))) ∧
  m = sp_np (fun u v => lab u = lab v) (g 1).toNat ∧
  sum = sp_sum (fun t => sp_nt g t - m) l.toNat
theorem sp_kr_iff {g : Int → Int} {B : Int} {lab : Int → Int} {P : Int → Prop} {m sum l : Int} (hI : Inv g B) (h : sp_kr g lab P m sum l) (x y : Int) (x0 : 0 ≤ x) (x1 : x < g 1) (y0 : 0 ≤ y) (y1 : y < g 1) : lab x = lab y ↔ sp_cn g P x y := by
  constructor
  · exact h.1 x y x0 x1 y0 y1
  · intro q
    exact sp_cn_keep (R := fun z => lab x = lab z) (fun e u v e0 e1 e2 e3 e4 => by
      have := h.2.1 e e0 e1 e2
      unfold sp_con at e3
      rcases e3 with ⟨c1, c2⟩ | ⟨c1, c2⟩
      · rw [← c2, ← this, c1]; exact e4
      · rw [← c1, this, c2]; exact e4) q rfl
/-- where all channels of at most t hours are done, the labels' parts are those of t -/
theorem sp_kr_nt {g : Int → Int} {B : Int} {lab : Int → Int} {P : Int → Prop} {m sum l t : Int} (hI : Inv g B) (h : sp_kr g lab P m sum l) (hP : ∀ e, 0 ≤ e → e < g 2 → (P e ↔ g (36 + e) ≤ t)) : m = sp_nt g t := by
  rw [h.2.2.1]
  unfold sp_nt
  have hc := hI.cr
  refine sp_np_congr (fun u v u0 u1 v0 v1 => ?_)
  have i1 := sp_kr_iff hI h u v u0 (by omega) v0 (by omega)
  constructor
  · exact fun q => sp_cn_mono (fun e e0 e1 => (hP e e0 e1).mp) (i1.mp q)
  · exact fun q => i1.mpr (sp_cn_mono (fun e e0 e1 => (hP e e0 e1).mpr) q)
theorem sp_kr_up {g : Int → Int} {lab : Int → Int} {P : Int → Prop} {m sum l l' : Int} (h : sp_kr g lab P m sum l) (hl : 0 ≤ l ∧ l ≤ l') (hm : ∀ t, l ≤ t → t < l' → m = sp_nt g t) : sp_kr g lab P m sum l' := by
  refine ⟨h.1, h.2.1, h.2.2.1, ?_⟩
  rw [sp_sum_split (f := fun t => sp_nt g t - m) (a := l.toNat) (b := l'.toNat) (by omega) (fun t t0 t1 => by have := hm t (by omega) (by omega); omega)]
  exact h.2.2.2
theorem sp_kr_skip {g : Int → Int} {lab : Int → Int} {P P' : Int → Prop} {m sum l d : Int} (h : sp_kr g lab P m sum l) (hP : ∀ e, P' e ↔ (P e ∨ e = d)) (hd : lab (g (16 + d)) = lab (g (26 + d))) : sp_kr g lab P' m sum l := by
  refine ⟨fun x y a b c e f => sp_cn_mono (fun e _ _ q => (hP e).mpr (Or.inl q)) (h.1 x y a b c e f), fun e e0 e1 q => ?_, h.2.2.1, h.2.2.2⟩
  rcases (hP e).mp q with w | w
  · exact h.2.1 e e0 e1 w
  · rw [w]; exact hd
theorem sp_kr_take {g : Int → Int} {B : Int} {lab lab' : Int → Int} {P P' : Int → Prop} {m sum l d : Int} (hI : Inv g B) (h : sp_kr g lab P m sum l) (hl : 0 ≤ l) (hP : ∀ e, P' e ↔ (P e ∨ e = d)) (d0 : 0 ≤ d) (d1 : d < g 2) (hd : ¬ lab (g (16 + d)) = lab (g (26 + d))) (hlab : ∀ v, 0 ≤ v → v < 6 → lab' v = if lab v = lab (g (26 + d)) then lab (g (16 + d)) else lab v) : sp_kr g lab' P' (m - 1) (sum + l) l := by
  have ci := hI.cha d d0 d1
  have kc := hI.cr
  have mono : ∀ {x y}, sp_cn g P x y → sp_cn g P' x y := fun q => sp_cn_mono (fun e _ _ q => (hP e).mpr (Or.inl q)) q
  have ed : sp_cn g P' (g (16 + d)) (g (26 + d)) := sp_cn_edge d0 d1 ((hP d).mpr (Or.inr rfl)) (Or.inl ⟨rfl, rfl⟩)
  refine ⟨fun x y x0 x1 y0 y1 q => ?_, fun e e0 e1 q => ?_, ?_, ?_⟩
  · rw [hlab x x0 (by omega), hlab y y0 (by omega)] at q
    by_cases e1 : lab x = lab (g (26 + d))
    · by_cases e2 : lab y = lab (g (26 + d))
      · exact mono (h.1 x y x0 x1 y0 y1 (e1.trans e2.symm))
      · rw [if_pos e1, if_neg e2] at q
        exact sp_cn_trans (mono (h.1 x _ x0 x1 (by omega) (by omega) e1)) (sp_cn_trans (sp_cn_sym ed) (mono (h.1 _ y (by omega) (by omega) y0 y1 q)))
    · by_cases e2 : lab y = lab (g (26 + d))
      · rw [if_neg e1, if_pos e2] at q
        exact sp_cn_trans (mono (h.1 x _ x0 x1 (by omega) (by omega) q)) (sp_cn_trans ed (mono (h.1 _ y (by omega) (by omega) y0 y1 e2.symm)))
      · rw [if_neg e1, if_neg e2] at q
        exact mono (h.1 x y x0 x1 y0 y1 q)
  · have ce := hI.cha e e0 e1
    rw [hlab _ ce.1 (by omega), hlab _ ce.2.2.1 (by omega)]
    rcases (hP e).mp q with w | w
    · rw [h.2.1 e e0 e1 w]
    · rw [w, if_neg hd, if_pos rfl]
  · rw [h.2.2.1]
    exact (sp_np_join (p := lab (g (16 + d))) (q := lab (g (26 + d))) hd ⟨ci.1, by omega, rfl⟩ ⟨ci.2.2.1, by omega, rfl⟩ (fun v v0 v1 => hlab v v0 (by omega))).symm
  · have sh := sp_sum_shift (f := fun t => sp_nt g t - m) (h := fun t => sp_nt g t - (m - 1)) (d := 1) (n := l.toNat) (fun i _ _ => by show sp_nt g i - (m - 1) = sp_nt g i - m + 1; omega)
    have h4 := h.2.2.2
    rw [sh]
    omega
/-- the end: every channel done -/
theorem sp_kr_end {g : Int → Int} {B : Int} {lab : Int → Int} {P : Int → Prop} {m sum l : Int} (hI : Inv g B) (h : sp_kr g lab P m sum l) (hl : 0 ≤ l ∧ l ≤ 10) (hP : ∀ e, 0 ≤ e → e < g 2 → P e) (hm : ∀ t, l ≤ t → t < 10 → m = sp_nt g t) : m = sp_nt g 9 ∧ sum = sp_nsum g := by
  have e9 : m = sp_nt g 9 := sp_kr_nt hI h (fun e e0 e1 => ⟨fun _ => by have := hI.cha e e0 e1; omega, fun _ => hP e e0 e1⟩)
  refine ⟨e9, ?_⟩
  have h2 := sp_kr_up h hl hm
  rw [h2.2.2.2, e9]
  rfl
theorem sp_nt_rng {g : Int → Int} {B : Int} (hI : Inv g B) (t : Int) : 0 ≤ sp_nt g t ∧ sp_nt g t ≤ 6 := by
  have := sp_np_rng (sp_cn g (fun e => g (36 + e) ≤ t)) (g 1).toNat
  have := hI.cr
  unfold sp_nt
  omega
end

