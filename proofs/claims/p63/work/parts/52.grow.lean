/-! the net by growing: contracts -/
section
variable {sc : Nat × (Nat → Int32)} {D : Nat} {J L : Nat → Int → Int} {W : nw_W} {c sl : Nat} {Qr : nw_QR} {Qx : nw_QX} {g : Int → Int} {B : Int}
/-- a set of craters in bits -/
def sp_S (n v : Int) : Prop := 0 ≤ v ∧ n.toNat.testBit v.toNat = true
theorem sp_S_b {n v : Int} (hn : 0 ≤ n ∧ n < 2147483648) (hv : 0 ≤ v ∧ v < 32) : nw_xiand (nw_xishr n v) 1 = sp_b (sp_S n v) := by
  rw [nw_tb hn hv]
  have h := nw_tbT hn.1 v.toNat
  by_cases e : n.toNat.testBit v.toNat = true
  · rw [sp_bT ⟨hv.1, e⟩, h.mpr e]
  · rw [sp_bF (fun q => e q.2)]
    rcases Int.emod_two_eq (n / 2 ^ v.toNat) with w | w
    · exact w
    · exact absurd (h.mp w) e
theorem sp_S_1 {v : Int} : sp_S 1 v ↔ v = 0 := by
  constructor
  · intro h
    have h2 := h.2
    have h3 : ((1 : Int).toNat).testBit v.toNat = decide (0 = v.toNat) := by
      rw [show (1 : Int).toNat = 2 ^ 0 by decide, Nat.testBit_two_pow]
    rw [h3, decide_eq_true_eq] at h2
    have := h.1
    omega
  · intro h
    rw [h]
    exact ⟨by decide, by decide⟩
/-- taking in both ends -/
theorem sp_S_or {n a b : Int} (hn : 0 ≤ n ∧ n < 64) (ha : 0 ≤ a ∧ a < 6) (hb : 0 ≤ b ∧ b < 6) : (0 ≤ nw_xior n (nw_xior (nw_xishl 1 a) (nw_xishl 1 b)) ∧ nw_xior n (nw_xior (nw_xishl 1 a) (nw_xishl 1 b)) < 64) ∧ ∀ v, sp_S (nw_xior n (nw_xior (nw_xishl 1 a) (nw_xishl 1 b))) v ↔ (sp_S n v ∨ v = a ∨ v = b) := by
  obtain ⟨m, rfl⟩ : ∃ m : Nat, n = m := ⟨n.toNat, by omega⟩
  obtain ⟨i, rfl⟩ : ∃ i : Nat, a = i := ⟨a.toNat, by omega⟩
  obtain ⟨j, rfl⟩ : ∃ j : Nat, b = j := ⟨b.toNat, by omega⟩
  have p : ∀ k : Nat, k < 6 → 2 ^ k < 64 := fun k hk => Nat.pow_lt_pow_right (a := 2) (n := 6) (by decide) hk
  have pi := p i (by omega)
  have pj := p j (by omega)
  have ei : ((2 ^ i : Nat) : Int) = (2 : Int) ^ i := by simp
  have ej : ((2 ^ j : Nat) : Int) = (2 : Int) ^ j := by simp
  have h1 : nw_xior (nw_xishl 1 i) (nw_xishl 1 j) = ((2 ^ i ||| 2 ^ j : Nat) : Int) := by
    rw [nw_shl1 i (by omega), nw_shl1 j (by omega), ← ei, ← ej, nw_or ⟨Int.natCast_nonneg _, by omega⟩ ⟨Int.natCast_nonneg _, by omega⟩, Int.toNat_natCast, Int.toNat_natCast]
  have l1 : 2 ^ i ||| 2 ^ j < 2 ^ 6 := Nat.or_lt_two_pow pi pj
  have l2 : m ||| (2 ^ i ||| 2 ^ j) < 2 ^ 6 := Nat.or_lt_two_pow (by omega) l1
  rw [h1, nw_or ⟨by omega, by omega⟩ ⟨by omega, by omega⟩, Int.toNat_natCast, Int.toNat_natCast]
  refine ⟨⟨by omega, by omega⟩, fun v => ?_⟩
  unfold sp_S
  rw [Int.toNat_natCast, Int.toNat_natCast, Nat.testBit_or, Nat.testBit_or, Nat.testBit_two_pow, Nat.testBit_two_pow, Bool.or_eq_true, Bool.or_eq_true, decide_eq_true_eq, decide_eq_true_eq]
  constructor
  · rintro ⟨x, y | y | y⟩
    · exact Or.inl ⟨x, y⟩
    · exact Or.inr (Or.inl (by omega))
    · exact Or.inr (Or.inr (by omega))
  · rintro (⟨x, y⟩ | y | y)
    · exact ⟨x, Or.inl y⟩
    · exact ⟨by omega, Or.inr (Or.inl (by omega))⟩
    · exact ⟨by omega, Or.inr (Or.inr (by omega))⟩
theorem t_X10_shortestOutOf {n : Int} (hR : RC J L g) (hI : Inv g B) (hn : 0 ≤ n ∧ n < 64) (hQ0 : (∀ e, 0 ≤ e → e < g 2 → (sp_S n (g (16 + e)) ↔ sp_S n (g (26 + e)))) → Qr (some (.inl (-1))) (J, L, W)) (hQ1 : ∀ d, 0 ≤ d → d < g 2 → ¬ (sp_S n (g (16 + d)) ↔ sp_S n (g (26 + d))) → (∀ e, 0 ≤ e → e < g 2 → ¬ (sp_S n (g (16 + e)) ↔ sp_S n (g (26 + e))) → g (36 + d) ≤ g (36 + e)) → Qr (some (.inl d)) (J, L, W)) : NW sc d_X10_shortestOutOf D (0, [some (.inr (.inl (some 29))), some (.inr (.inl (some 3))), some (.inl n), none, none, none, none], [], (J, L, W), c, sl) Qr Qx := by
  have kh := hI.ch
  have kc := hI.cr
  have lp : ∀ (r : Nat) (e s : Int), 0 ≤ e → e ≤ g 2 → (g 2 - e).toNat = r → ((s = -1 ∧ ∀ x, 0 ≤ x → x < e → (sp_S n (g (16 + x)) ↔ sp_S n (g (26 + x)))) ∨ (0 ≤ s ∧ s < g 2 ∧ ¬ (sp_S n (g (16 + s)) ↔ sp_S n (g (26 + s))) ∧ ∀ x, 0 ≤ x → x < e → ¬ (sp_S n (g (16 + x)) ↔ sp_S n (g (26 + x))) → g (36 + s) ≤ g (36 + x))) → NW sc d_X10_shortestOutOf D (5, [none, some (.inr (.inl (some 3))), some (.inl n), some (.inl s), some (.inl e), none, none], [], (J, L, W), c, sl) Qr Qx := by
    intro r9
    induction r9 using Nat.strongRecOn with
    | ind r9 ih =>
      intro e s e0 e1 hr hs
      have n2 : J 3 1 = g 2 := hR.ch
      refine b_X10_shortestOutOf_5 ?_
      rw [n2]
      refine ⟨fun q => ?_, fun q => ?_⟩
      · rcases hs with ⟨s0, hs⟩ | ⟨s0, s1, s2, hs⟩
        · rw [s0]
          exact hQ0 (fun x x0 x1 => hs x x0 (by omega))
        · exact hQ1 s s0 s1 s2 (fun x x0 x1 => hs x x0 (by omega))
      · have ci := hI.cha e e0 q
        have cr := hR.cha e e0 q
        rw [cr.1, cr.2.1, sp_S_b ⟨by omega, by omega⟩ ⟨by omega, by omega⟩, sp_S_b ⟨by omega, by omega⟩ ⟨by omega, by omega⟩]
        have key : sp_b (sp_S n (g (16 + e))) = sp_b (sp_S n (g (26 + e))) ↔ (sp_S n (g (16 + e)) ↔ sp_S n (g (26 + e))) := by
          by_cases a : sp_S n (g (16 + e))
          · by_cases b : sp_S n (g (26 + e))
            · rw [sp_bT a, sp_bT b]; exact ⟨fun _ => ⟨fun _ => b, fun _ => a⟩, fun _ => rfl⟩
            · rw [sp_bT a, sp_bF b]; exact ⟨fun x => absurd x (by decide), fun x => absurd (x.mp a) b⟩
          · by_cases b : sp_S n (g (26 + e))
            · rw [sp_bF a, sp_bT b]; exact ⟨fun x => absurd x (by decide), fun x => absurd (x.mpr b) a⟩
            · rw [sp_bF a, sp_bF b]; exact ⟨fun _ => ⟨fun x => absurd x a, fun x => absurd x b⟩, fun _ => rfl⟩
        rw [key]
        refine ⟨by omega, fun y => ⟨fun z => ⟨by omega, ?_⟩, fun z => ?_⟩, fun y => ⟨by omega, ?_⟩⟩
        · refine ih _ (by omega) (e + 1) e (by omega) (by omega) rfl (Or.inr ⟨e0, q, y, fun x x0 x1 x2 => ?_⟩)
          by_cases w : x = e
          · rw [w]; exact Int.le_refl _
          · rcases hs with ⟨s0, hs⟩ | ⟨s0, s1, s2, hs⟩
            · exact absurd (hs x x0 (by omega)) x2
            · omega
        · rcases hs with ⟨s0, hs⟩ | ⟨s0, s1, s2, hs⟩
          · exact absurd s0 z
          · have cs := hR.cha s s0 s1
            rw [cr.2.2.1, cs.2.2.1]
            refine ⟨by omega, fun w => ⟨by omega, ?_⟩, fun w => ⟨by omega, ?_⟩⟩
            · refine ih _ (by omega) (e + 1) s (by omega) (by omega) rfl (Or.inr ⟨s0, s1, s2, fun x x0 x1 x2 => ?_⟩)
              by_cases w' : x = e
              · rw [w']; exact w
              · exact hs x x0 (by omega) x2
            · refine ih _ (by omega) (e + 1) e (by omega) (by omega) rfl (Or.inr ⟨e0, q, y, fun x x0 x1 x2 => ?_⟩)
              by_cases w' : x = e
              · rw [w']; exact Int.le_refl _
              · have := hs x x0 (by omega) x2
                omega
        · refine ih _ (by omega) (e + 1) s (by omega) (by omega) rfl ?_
          rcases hs with ⟨s0, hs⟩ | ⟨s0, s1, s2, hs⟩
          · refine Or.inl ⟨s0, fun x x0 x1 => ?_⟩
            by_cases w : x = e
            · rw [w]; exact y
            · exact hs x x0 (by omega)
          · refine Or.inr ⟨s0, s1, s2, fun x x0 x1 x2 => ?_⟩
            by_cases w : x = e
            · rw [w] at x2; exact absurd y x2
            · exact hs x x0 (by omega) x2
  exact b_X10_shortestOutOf_0 (lp _ 0 (-1) (by omega) kh.1 rfl (Or.inl ⟨rfl, fun x a b => by omega⟩))

theorem sp_sum_stp {f h : Int → Int} {l : Int} (l0 : 0 ≤ l) : ∀ {n : Nat}, (∀ i : Int, 0 ≤ i → i < n → h i = f i + if i < l then 1 else 0) → sp_sum h n = sp_sum f n + if (n : Int) ≤ l then (n : Int) else l
  | 0, _ => by simp only [sp_sum]; split <;> omega
  | n + 1, e => by
    rw [sp_sum, sp_sum, sp_sum_stp l0 (n := n) (fun i a b => e i a (by omega)), e n (by omega) (by omega)]
    split <;> split <;> split <;> omega
theorem sp_nk_congr {C : Int → Int → Prop} {S T : Int → Prop} {n : Nat} (h : ∀ v, S v ↔ T v) : sp_nk C S n = sp_nk C T n := by
  rw [show S = T from funext (fun v => propext (h v))]
theorem sp_nk_le {C : Int → Int → Prop} {S : Int → Prop} {n : Nat} : sp_nk C S n ≤ sp_np C n := by
  refine sp_sum_le' (fun v v0 v1 => ?_)
  by_cases e : sp_rep C v
  · rw [sp_bT (P := sp_rep C v) e]
    by_cases w : ∃ s, S s ∧ C v s
    · rw [sp_bT ⟨e, w⟩]; exact Int.le_refl _
    · rw [sp_bF (fun q => w q.2)]; decide
  · rw [sp_bF (fun q => e q.1), sp_bF e]; exact Int.le_refl _
/-- taking in one crater at the end of the shortest channel out of S -/
theorem sp_grow {g : Int → Int} {B : Int} {S : Int → Prop} {d u w : Int} (hI : Inv g B) (d0 : 0 ≤ d) (d1 : d < g 2) (hc : sp_con g u w d) (hu : S u) (hw : ¬ S w) (hm : ∀ e, 0 ≤ e → e < g 2 → ¬ (S (g (16 + e)) ↔ S (g (26 + e))) → g (36 + d) ≤ g (36 + e)) (t : Int) : sp_nk (sp_cn g (fun e => g (36 + e) ≤ t)) (fun s => S s ∨ s = w) (g 1).toNat = sp_nk (sp_cn g (fun e => g (36 + e) ≤ t)) S (g 1).toNat + if t < g (36 + d) then 1 else 0 := by
  have ci := hI.cha d d0 d1
  have kc := hI.cr
  have wr : 0 ≤ w ∧ w < g 1 := by
    rcases hc with ⟨_, b⟩ | ⟨a, _⟩
    · rw [← b]; exact ⟨ci.2.2.1, ci.2.2.2.1⟩
    · rw [← a]; exact ⟨ci.1, ci.2.1⟩
  by_cases e : t < g (36 + d)
  · rw [if_pos e]
    refine sp_nk_more (fun a b c x y => sp_cn_trans x y) (fun a b x => sp_cn_sym x) sp_cn_refl wr.1 (by omega) (fun v hv q => hw ?_)
    refine sp_cn_keep (R := S) (fun e' x y e0 e1 he hxy hx => ?_) q hv
    by_cases k : S y
    · exact k
    · exfalso
      have := hm e' e0 e1 (fun z => by
        rcases hxy with ⟨a, b⟩ | ⟨a, b⟩
        · rw [a, b] at z; exact k (z.mp hx)
        · rw [a, b] at z; exact k (z.mpr hx))
      have he' : g (36 + e') ≤ t := he
      omega
  · rw [if_neg e, Int.add_zero]
    exact sp_nk_same (fun a b c x y => sp_cn_trans x y) (fun a b x => sp_cn_sym x) hu (sp_cn_edge d0 d1 (by show g (36 + d) ≤ t; omega) hc)
/-- what the growing keeps -/
def sp_gr (g : Int → Int) (S : Int → Prop) (sum k : Int) : Prop :=
  (∀ v, S v → 0 ≤ v ∧ v < g 1) ∧ S 0 ∧ sp_sum (fun v => sp_b (S v)) (g 1).toNat = k ∧ sum = sp_sum (fun t => sp_nk (sp_cn g (fun e => g (36 + e) ≤ t)) S (g 1).toNat - 1) 10 ∧ sp_nk (sp_cn g (fun e => g (36 + e) ≤ 9)) S (g 1).toNat = 1
theorem sp_gr_congr {g : Int → Int} {S T : Int → Prop} {sum k : Int} (h : ∀ v, S v ↔ T v) (q : sp_gr g S sum k) : sp_gr g T sum k := by
  rw [← show S = T from funext (fun v => propext (h v))]
  exact q
theorem sp_gr_step {g : Int → Int} {B : Int} {S : Int → Prop} {d u w sum k : Int} (hI : Inv g B) (h : sp_gr g S sum k) (d0 : 0 ≤ d) (d1 : d < g 2) (hc : sp_con g u w d) (hu : S u) (hw : ¬ S w) (hm : ∀ e, 0 ≤ e → e < g 2 → ¬ (S (g (16 + e)) ↔ S (g (26 + e))) → g (36 + d) ≤ g (36 + e)) : sp_gr g (fun s => S s ∨ s = w) (sum + g (36 + d)) (k + 1) := by
  have ci := hI.cha d d0 d1
  have kc := hI.cr
  have gr := sp_grow hI d0 d1 hc hu hw hm
  have wr : 0 ≤ w ∧ w < g 1 := by
    rcases hc with ⟨_, b⟩ | ⟨a, _⟩
    · rw [← b]; exact ⟨ci.2.2.1, ci.2.2.2.1⟩
    · rw [← a]; exact ⟨ci.1, ci.2.1⟩
  refine ⟨fun v hv => ?_, Or.inl h.2.1, ?_, ?_, ?_⟩
  · rcases hv with hv | hv
    · exact h.1 v hv
    · rw [hv]; exact wr
  · have h3 := h.2.2.1
    have := sp_sum_upd (f := fun v => sp_b (S v)) (h := fun v => sp_b (S v ∨ v = w)) (n := (g 1).toNat) wr.1 (fun i _ _ hi => sp_b_congr ⟨fun x => x.resolve_right hi, Or.inl⟩)
    rw [this, if_pos (by omega), sp_bT (Or.inr rfl), sp_bF hw, h3]
    rfl
  · have := sp_sum_stp (f := fun t => sp_nk (sp_cn g (fun e => g (36 + e) ≤ t)) S (g 1).toNat - 1) (h := fun t => sp_nk (sp_cn g (fun e => g (36 + e) ≤ t)) (fun s => S s ∨ s = w) (g 1).toNat - 1) (l := g (36 + d)) (by omega) (n := 10) (fun t _ _ => by
      have q := gr t
      show sp_nk (sp_cn g (fun e => g (36 + e) ≤ t)) (fun s => S s ∨ s = w) (g 1).toNat - 1 = sp_nk (sp_cn g (fun e => g (36 + e) ≤ t)) S (g 1).toNat - 1 + if t < g (36 + d) then 1 else 0
      rw [q]
      omega)
    rw [this, if_neg (by omega), ← h.2.2.2.1]
  · rw [gr 9, if_neg (by omega), h.2.2.2.2]
    rfl
theorem sp_gr_0 {g : Int → Int} {B : Int} {S : Int → Prop} (hI : Inv g B) (hn : 1 ≤ g 1) (hS : ∀ v, S v ↔ v = 0) : sp_gr g S 0 1 := by
  have z : ∀ n : Nat, sp_sum (fun _ => (0 : Int)) n = 0 := fun n => by
    induction n with
    | zero => rfl
    | succ n ih => rw [sp_sum, ih]; rfl
  have one : ∀ t, sp_nk (sp_cn g (fun e => g (36 + e) ≤ t)) S (g 1).toNat = 1 := fun t => by
    rw [sp_nk_congr (T := fun s => False ∨ s = 0) (fun v => by rw [hS v]; exact ⟨Or.inr, fun x => x.resolve_left id⟩)]
    rw [sp_nk_more (C := sp_cn g (fun e => g (36 + e) ≤ t)) (w := 0) (n := (g 1).toNat) (S := fun _ => False) (fun a b c x y => sp_cn_trans x y) (fun a b x => sp_cn_sym x) sp_cn_refl (by decide) (by omega) (fun u q => q.elim)]
    have : sp_nk (sp_cn g (fun e => g (36 + e) ≤ t)) (fun _ => False) (g 1).toNat = sp_sum (fun _ => 0) (g 1).toNat := sp_sum_congr (fun v _ _ => sp_bF (fun ⟨_, _, q, _⟩ => q))
    rw [this, z]
    rfl
  refine ⟨fun v hv => ?_, (hS 0).mpr rfl, ?_, ?_, one 9⟩
  · rw [(hS v).mp hv]; omega
  · have := sp_sum_upd (f := fun _ => 0) (h := fun v => sp_b (S v)) (p := 0) (n := (g 1).toNat) (by decide) (fun v v0 v1 hv => sp_bF (fun q => hv ((hS v).mp q)))
    rw [this, z, if_pos (by omega), sp_bT ((hS 0).mpr rfl)]
    rfl
  · have : sp_sum (fun t => sp_nk (sp_cn g (fun e => g (36 + e) ≤ t)) S (g 1).toNat - 1) 10 = sp_sum (fun _ => 0) 10 := sp_sum_congr (fun t _ _ => by
      show sp_nk (sp_cn g (fun e => g (36 + e) ≤ t)) S (g 1).toNat - 1 = 0
      rw [one t]; rfl)
    rw [this, z]
/-- the end: all joined, or nothing goes out -/
theorem sp_gr_all {g : Int → Int} {B : Int} {S : Int → Prop} {sum k : Int} (hI : Inv g B) (h : sp_gr g S sum k) (hk : g 1 ≤ k) : sp_nt g 9 ≤ 1 ∧ sum = sp_nsum g := by
  have kc := hI.cr
  have all : ∀ v : Int, 0 ≤ v → v < (g 1).toNat → S v := fun v v0 v1 => by
    by_cases e : S v
    · exact e
    · exfalso
      have u := sp_sum_upd (f := fun v => sp_b (S v)) (h := fun x => sp_b (S x ∨ x = v)) (n := (g 1).toNat) v0 (fun i _ _ hi => sp_b_congr ⟨fun x => x.resolve_right hi, Or.inl⟩)
      rw [if_pos v1, sp_bT (Or.inr rfl), sp_bF e, h.2.2.1] at u
      have le := sp_sum_le' (f := fun x => sp_b (S x ∨ x = v)) (h := fun _ => 1) (n := (g 1).toNat) (fun i _ _ => by
        show sp_b (S i ∨ i = v) ≤ 1
        by_cases w : S i ∨ i = v
        · rw [sp_bT w]; decide
        · rw [sp_bF w]; decide)
      have one : ∀ n : Nat, sp_sum (fun _ => (1 : Int)) n = n := fun n => by
        induction n with
        | zero => rfl
        | succ n ih => rw [sp_sum, ih]; omega
      rw [one, u] at le
      omega
  have nk : ∀ t, sp_nk (sp_cn g (fun e => g (36 + e) ≤ t)) S (g 1).toNat = sp_nt g t := fun t => sp_nk_all (fun _ => sp_cn_refl) all
  have h9 := h.2.2.2.2
  rw [nk 9] at h9
  refine ⟨by omega, ?_⟩
  rw [h.2.2.2.1]
  unfold sp_nsum
  exact sp_sum_congr (fun t _ _ => by
    show sp_nk (sp_cn g (fun e => g (36 + e) ≤ t)) S (g 1).toNat - 1 = sp_nt g t - sp_nt g 9
    rw [nk t, h9])
theorem sp_gr_none {g : Int → Int} {B : Int} {S : Int → Prop} {sum k : Int} (hI : Inv g B) (h : sp_gr g S sum k) (hk : k < g 1) (hn : ∀ e, 0 ≤ e → e < g 2 → (S (g (16 + e)) ↔ S (g (26 + e)))) : 1 < sp_nt g 9 := by
  have kc := hI.cr
  have ex : ∃ w : Int, 0 ≤ w ∧ w < g 1 ∧ ¬ S w := Classical.byContradiction (fun q => by
    have all : ∀ v : Int, 0 ≤ v → v < g 1 → S v := fun v a b => Classical.byContradiction (fun x => q ⟨v, a, b, x⟩)
    have h3 := h.2.2.1
    have : sp_sum (fun v => sp_b (S v)) (g 1).toNat = sp_sum (fun _ => 1) (g 1).toNat := sp_sum_congr (fun v v0 v1 => sp_bT (all v v0 (by omega)))
    have one : ∀ n : Nat, sp_sum (fun _ => (1 : Int)) n = n := fun n => by
      induction n with
      | zero => rfl
      | succ n ih => rw [sp_sum, ih]; omega
    rw [this, one] at h3
    omega)
  obtain ⟨w, w0, w1, w2⟩ := ex
  have m := sp_nk_more (C := sp_cn g (fun e => g (36 + e) ≤ 9)) (S := S) (w := w) (n := (g 1).toNat) (fun a b c x y => sp_cn_trans x y) (fun a b x => sp_cn_sym x) sp_cn_refl w0 (by omega) (fun u hu q => w2 (sp_cn_keep (R := S) (fun e x y e0 e1 _ hxy hx => by
    have := hn e e0 e1
    rcases hxy with ⟨a, b⟩ | ⟨a, b⟩
    · rw [a, b] at this; exact this.mp hx
    · rw [a, b] at this; exact this.mpr hx) q hu))
  have le := sp_nk_le (C := sp_cn g (fun e => g (36 + e) ≤ 9)) (S := fun s => S s ∨ s = w) (n := (g 1).toNat)
  rw [m, h.2.2.2.2] at le
  show 1 < sp_np (sp_cn g (fun e => g (36 + e) ≤ 9)) (g 1).toNat
  omega
theorem t_X10_netByGrowing (hR : RC J L g) (hI : Inv g B) (hD : 1 ≤ D) (hQ1 : sp_nt g 9 ≤ 1 → Qr (some (.inl (sp_nsum g))) (J, L, W)) (hQ0 : 1 < sp_nt g 9 → Qr (some (.inl (-1))) (J, L, W)) : NW sc d_X10_netByGrowing D (0, [some (.inr (.inl (some 29))), some (.inr (.inl (some 3))), none, none, none, none], [], (J, L, W), c, sl) Qr Qx := by
  have kc := hI.cr
  have kh := hI.ch
  have n1 : J 3 0 = g 1 := hR.cr
  by_cases n0 : g 1 ≤ 0
  · refine b_X10_netByGrowing_0 (b_X10_netByGrowing_7 hD ⟨fun _ => ?_, fun q => by omega⟩)
    have z : ∀ t, sp_nt g t = 0 := fun t => by
      show sp_np _ (g 1).toNat = 0
      rw [show (g 1).toNat = 0 by omega]
      rfl
    have := hQ1 (by rw [z]; decide)
    have s0 : sp_nsum g = 0 := by
      unfold sp_nsum
      simp only [z]
      rfl
    rw [s0] at this
    exact this
  have lp : ∀ (r : Nat) (n sum k : Int), 1 ≤ k → k ≤ g 1 → (g 1 - k).toNat = r → 0 ≤ n → n < 64 → 0 ≤ sum → sum ≤ 9 * k → sp_gr g (sp_S n) sum k → NW sc d_X10_netByGrowing D (7, [some (.inr (.inl (some 29))), some (.inr (.inl (some 3))), some (.inl n), some (.inl sum), some (.inl k), none], [], (J, L, W), c, sl) Qr Qx := by
    intro r9
    induction r9 using Nat.strongRecOn with
    | ind r9 ih =>
      intro n sum k k0 k1 hr n0 n6 s0 s1 G
      refine b_X10_netByGrowing_7 hD ?_
      rw [n1]
      refine ⟨fun q => ?_, fun q => ?_⟩
      · have e := sp_gr_all hI G q
        rw [e.2]
        exact hQ1 e.1
      · refine t_X10_shortestOutOf hR hI ⟨n0, n6⟩ (fun hn => ?_) (fun d d0 d1 hc hm => ?_)
        · exact b_X10_netByGrowing_22 ⟨fun x => absurd rfl x, fun _ => hQ0 (sp_gr_none hI G q hn)⟩
        · have ci := hI.cha d d0 d1
          have cr := hR.cha d d0 d1
          refine b_X10_netByGrowing_22 ⟨fun _ => ⟨by omega, ?_⟩, fun x => by omega⟩
          rw [cr.1, cr.2.1, cr.2.2.1]
          have o := sp_S_or (n := n) (a := g (16 + d)) (b := g (26 + d)) ⟨n0, n6⟩ ⟨by omega, by omega⟩ ⟨by omega, by omega⟩
          have G2 : sp_gr g (sp_S (nw_xior n (nw_xior (nw_xishl 1 (g (16 + d))) (nw_xishl 1 (g (26 + d)))))) (sum + g (36 + d)) (k + 1) := by
            by_cases a : sp_S n (g (16 + d))
            · have b : ¬ sp_S n (g (26 + d)) := fun b => hc ⟨fun _ => b, fun _ => a⟩
              refine sp_gr_congr (fun v => ?_) (sp_gr_step hI G d0 d1 (Or.inl ⟨rfl, rfl⟩) a b hm)
              rw [o.2 v]
              constructor
              · rintro (x | x)
                · exact Or.inl x
                · exact Or.inr (Or.inr x)
              · rintro (x | x | x)
                · exact Or.inl x
                · exact Or.inl (x ▸ a)
                · exact Or.inr x
            · have b : sp_S n (g (26 + d)) := Classical.byContradiction (fun b => hc ⟨fun x => absurd x a, fun x => absurd x b⟩)
              refine sp_gr_congr (fun v => ?_) (sp_gr_step hI G d0 d1 (Or.inr ⟨rfl, rfl⟩) b a hm)
              rw [o.2 v]
              constructor
              · rintro (x | x)
                · exact Or.inl x
                · exact Or.inr (Or.inl x)
              · rintro (x | x | x)
                · exact Or.inl x
                · exact Or.inr x
                · exact Or.inl (x ▸ b)
          refine ⟨by omega, by omega, ?_⟩
          exact ih _ (by omega) _ (sum + g (36 + d)) (k + 1) (by omega) (by omega) rfl o.1.1 o.1.2 (by omega) (by omega) G2
  exact b_X10_netByGrowing_0 (lp _ 1 0 1 (by decide) (by omega) rfl (by decide) (by decide) (by decide) (by decide) (sp_gr_0 hI (by omega) (fun v => sp_S_1)))
end

