/-! arrivals by hours: sending -/
section
variable {sc : Nat × (Nat → Int32)} {D : Nat} {J L : Nat → Int → Int} {W : nw_W} {c sl : Nat} {Qr : nw_QR} {Qx : nw_QX} {g : Int → Int} {B : Int}
theorem sp_S_or1 {n a : Int} (hn : 0 ≤ n ∧ n < 64) (ha : 0 ≤ a ∧ a < 6) : (0 ≤ nw_xior n (nw_xishl 1 a) ∧ nw_xior n (nw_xishl 1 a) < 64) ∧ ∀ v, sp_S (nw_xior n (nw_xishl 1 a)) v ↔ (sp_S n v ∨ v = a) := by
  obtain ⟨m, rfl⟩ : ∃ m : Nat, n = m := ⟨n.toNat, by omega⟩
  obtain ⟨i, rfl⟩ : ∃ i : Nat, a = i := ⟨a.toNat, by omega⟩
  have pi : 2 ^ i < 64 := Nat.pow_lt_pow_right (a := 2) (n := 6) (by decide) (by omega)
  have ei : ((2 ^ i : Nat) : Int) = (2 : Int) ^ i := by simp
  have l2 : m ||| 2 ^ i < 2 ^ 6 := Nat.or_lt_two_pow (by omega) pi
  rw [nw_shl1 i (by omega), ← ei, nw_or ⟨by omega, by omega⟩ ⟨Int.natCast_nonneg _, by omega⟩, Int.toNat_natCast, Int.toNat_natCast]
  refine ⟨⟨by omega, by omega⟩, fun v => ?_⟩
  unfold sp_S
  rw [Int.toNat_natCast, Int.toNat_natCast, Nat.testBit_or, Nat.testBit_two_pow, Bool.or_eq_true, decide_eq_true_eq]
  constructor
  · rintro ⟨x, y | y⟩
    · exact Or.inl ⟨x, y⟩
    · exact Or.inr (by omega)
  · rintro (⟨x, y⟩ | y)
    · exact ⟨x, Or.inl y⟩
    · exact ⟨by omega, Or.inr (by omega)⟩
theorem sp_rc_mono {g : Int → Int} {f : Int} {k : Nat} {x s t : Int} (st : s ≤ t) (q : sp_rc g f k x s) : sp_rc g f k x t := by
  cases k with
  | zero => exact ⟨q.1, Int.le_trans q.2 st⟩
  | succ k =>
    obtain ⟨a1, a2, a3, a4, a5, a6, a7, a8, a9⟩ := q
    exact ⟨a1, a2, a3, a4, a5, a6, a7, a8, Int.le_trans a9 st⟩
theorem sp_bh_send {g : Int → Int} {B f m d : Int} {H T T' : Int → Int} {N : Int → Prop} (hI : Inv g B) (hf : 0 ≤ f ∧ f < g 3) (hm : 0 ≤ m ∧ m < 100) (hd : 0 ≤ d ∧ d < g 2) (h : sp_bh g f H T m N (fun x _ => x < d)) (hT : ∀ k, 0 ≤ k → k < 100 → 0 ≤ T' k ∧ T' k < 64) (hS : ∀ k v, 0 ≤ k → k < 100 → sp_S (T k) v → sp_S (T' k) v) (hN : ∀ k v, 0 ≤ k → k < 100 → sp_S (T' k) v → sp_S (T k) v ∨ (k = m + g (36 + d) ∧ ∃ u, sp_con g u v d ∧ ¬ H u = -1 ∧ sp_go g f d u (g 0 + m))) (hC : ∀ u v, sp_con g u v d → ¬ H u = -1 → sp_go g f d u (g 0 + m) → m + g (36 + d) ≤ 99 → sp_S (T' (m + g (36 + d))) v) : sp_bh g f H T' m N (fun x _ => x < d + 1) := by
  have tr := sp_t0_rng hI hf
  refine ⟨hT, fun k v k0 k1 b => ?_, h.2.2.1, fun k v k0 k1 kk b => ?_, fun e u v s e0 e1 hc hs hu hus hg hl => ?_, hS _ _ (by omega) (by omega) h.2.2.2.2.2⟩
  · rcases hN k v k0 k1 b with q | ⟨q, u, hc, hu, hg⟩
    · exact h.2.1 k v k0 k1 q
    · have cr := sp_con_in hI hd hc
      have a := h.2.2.1 u (by omega) (by omega) hu
      obtain ⟨n, hn⟩ := a.1
      exact ⟨by omega, n + 1, d, u, g 0 + m, hd.1, hd.2, hc, sp_rc_mono a.2.2 hn, hg, by omega⟩
  · rcases hN k v k0 k1 b with q | ⟨q, u, hc, hu, hg⟩
    · exact h.2.2.2.1 k v k0 k1 kk q
    · have cr := sp_con_in hI hd hc
      omega
  · have cr := sp_con_in hI ⟨e0, e1⟩ hc
    have ur := h.2.2.1 u (by omega) (by omega) hu
    by_cases w : s < g 0 + m ∨ (s = g 0 + m ∧ e < d)
    · exact hS _ _ (by omega) (by omega) (h.2.2.2.2.1 e u v s e0 e1 hc w hu hus hg hl)
    · have z : s = g 0 + m ∧ e = d := by omega
      obtain ⟨z1, z2⟩ := z
      rw [z1, z2] at hg
      rw [z2] at hc hl ⊢
      have := hC u v hc hu hg (by omega)
      rw [z1, show g 0 + m + g (36 + d) - g 0 = m + g (36 + d) by omega]
      exact this
theorem t_X10_sendThrough {f d m : Int} (hR : RC J L g) (hI : Inv g B) (hf : 0 ≤ f ∧ f < g 3) (hm : 0 ≤ m ∧ m < 100) (hd : 0 ≤ d ∧ d < g 2) {N : Int → Prop} (hD : 2 ≤ D) (hB : sp_bh g f (J 39) (J 45) m N (fun x _ => x < d)) (hQ : ∀ J', (∀ x, ¬ x = 45 → J' x = J x) → sp_bh g f (J' 39) (J' 45) m N (fun x _ => x < d + 1) → Qr none (J', L, W)) : NW sc d_X10_sendThrough D (0, [some (.inr (.inl (some 29))), some (.inr (.inl (some 2))), some (.inl f), some (.inl d), some (.inl m), none, none, none, none, none, none], [], (J, L, W), c, sl) Qr Qx := by
  have kc := hI.cr
  have kh := hI.ch
  have ko := hI.ho
  have kb := hI.bd
  have kf := hI.fe
  have ci := hI.cha d hd.1 hd.2
  have cr := hR.cha d hd.1 hd.2
  have fr := hR.fer f hf.1 hf.2
  have fi := hI.fer f hf.1 hf.2
  have n3 : J 2 3 = g 0 := hR.ho
  obtain ⟨a, ha⟩ : ∃ a, g (16 + d) = a := ⟨_, rfl⟩
  obtain ⟨b, hb⟩ : ∃ b, g (26 + d) = b := ⟨_, rfl⟩
  obtain ⟨l, hl⟩ : ∃ l, g (36 + d) = l := ⟨_, rfl⟩
  have da : J 4 a = g (10 + a) := hR.dep a (by omega) (by omega)
  have db : J 4 b = g (10 + b) := hR.dep b (by omega) (by omega)
  have ia := hI.dep a (by omega) (by omega)
  have ib := hI.dep b (by omega) (by omega)
  have td := sp_tide_rng (g 0 + m)
  obtain ⟨t, ht⟩ : ∃ t, sp_tide (g 0 + m) = t := ⟨_, rfl⟩
  have go : ∀ u, sp_go g f d u (g 0 + m) ↔ (g (65 + f) ≤ g (10 + u) + t ∧ g (65 + f) ≤ g (46 + d) + t) := fun u => by
    unfold sp_go sp_low sp_opn
    rw [ht]
    omega
  have cn : ∀ u v, sp_con g u v d ↔ ((u = a ∧ v = b) ∨ (u = b ∧ v = a)) := fun u v => by
    unfold sp_con
    rw [ha, hb]
    omega
  have fin : ∀ T' : Int → Int, (∀ k, 0 ≤ k → k < 100 → 0 ≤ T' k ∧ T' k < 64) → (∀ k v, 0 ≤ k → k < 100 → (sp_S (T' k) v ↔ (sp_S (J 45 k) v ∨ (k = m + l ∧ ((v = b ∧ ¬ J 39 a = -1 ∧ sp_go g f d a (g 0 + m)) ∨ (v = a ∧ ¬ J 39 b = -1 ∧ sp_go g f d b (g 0 + m))))))) → sp_bh g f (J 39) T' m N (fun x _ => x < d + 1) := fun T' h1 h2 => by
    refine sp_bh_send hI hf hm hd hB h1 (fun k v k0 k1 q => (h2 k v k0 k1).mpr (Or.inl q)) (fun k v k0 k1 q => ?_) (fun u v hc hu hg hle => ?_)
    · rcases (h2 k v k0 k1).mp q with q | ⟨q, ⟨q1, q2, q3⟩ | ⟨q1, q2, q3⟩⟩
      · exact Or.inl q
      · exact Or.inr ⟨by rw [hl]; exact q, a, (cn _ _).mpr (Or.inl ⟨rfl, q1⟩), q2, q3⟩
      · exact Or.inr ⟨by rw [hl]; exact q, b, (cn _ _).mpr (Or.inr ⟨rfl, q1⟩), q2, q3⟩
    · rw [hl] at hle ⊢
      refine (h2 _ v (by omega) (by omega)).mpr (Or.inr ⟨rfl, ?_⟩)
      rcases (cn u v).mp hc with ⟨p1, p2⟩ | ⟨p1, p2⟩
      · rw [p1] at hu hg; exact Or.inl ⟨p2, hu, hg⟩
      · rw [p1] at hu hg; exact Or.inr ⟨p2, hu, hg⟩
  have same : (∀ v, v = b ∧ ¬ J 39 a = -1 ∧ sp_go g f d a (g 0 + m) → m + l < 100 → False) → (∀ v, v = a ∧ ¬ J 39 b = -1 ∧ sp_go g f d b (g 0 + m) → m + l < 100 → False) → Qr none (J, L, W) := fun h1 h2 => by
    refine hQ J (fun _ _ => rfl) (fin _ (fun k k0 k1 => hB.1 k k0 k1) (fun k v k0 k1 => ⟨Or.inl, fun q => ?_⟩))
    rcases q with q | ⟨q, q1 | q1⟩
    · exact q
    · exact (h1 v q1 (by omega)).elim
    · exact (h2 v q1 (by omega)).elim
  have oneAt : ∀ x, (0 ≤ x ∧ x < 6) → m + l ≤ 99 → (∀ v, v = x ↔ ((v = b ∧ ¬ J 39 a = -1 ∧ sp_go g f d a (g 0 + m)) ∨ (v = a ∧ ¬ J 39 b = -1 ∧ sp_go g f d b (g 0 + m)))) → Qr none (nw_u J 45 (m + l) (nw_xior (J 45 (m + l)) (nw_xishl 1 x)), L, W) := fun x hx hle h => by
    have o := sp_S_or1 (n := J 45 (m + l)) (a := x) (hB.1 _ (by omega) (by omega)) hx
    refine hQ _ (fun y z => nw_uP z) ?_
    rw [nw_uP (by decide), nw_u304]
    refine fin _ (fun k k0 k1 => ?_) (fun k v k0 k1 => ?_)
    · by_cases e : k = m + l
      · rw [e, sp_set_eq]; exact o.1
      · rw [sp_set_ne e]; exact hB.1 k k0 k1
    · by_cases e : k = m + l
      · rw [e, sp_set_eq, o.2 v, h v]
        exact ⟨fun q => q.imp id (fun q => ⟨rfl, q⟩), fun q => q.imp id (fun q => q.2)⟩
      · rw [sp_set_ne e]
        exact ⟨Or.inl, fun q => q.resolve_right (fun x => e x.1)⟩
  have two : m + l ≤ 99 → (¬ J 39 a = -1 ∧ sp_go g f d a (g 0 + m)) → (¬ J 39 b = -1 ∧ sp_go g f d b (g 0 + m)) → Qr none (nw_u (nw_u J 45 (m + l) (nw_xior (J 45 (m + l)) (nw_xishl 1 b))) 45 (m + l) (nw_xior (nw_xior (J 45 (m + l)) (nw_xishl 1 b)) (nw_xishl 1 a)), L, W) := fun hle h1 h2 => by
    have o := sp_S_or1 (n := J 45 (m + l)) (a := b) (hB.1 _ (by omega) (by omega)) ⟨by omega, by omega⟩
    have o2 := sp_S_or1 (a := a) o.1 ⟨by omega, by omega⟩
    refine hQ _ (fun y z => by rw [nw_uP z, nw_uP z]) ?_
    rw [nw_uP (by decide), nw_uP (by decide), nw_u304, nw_u304]
    refine fin _ (fun k k0 k1 => ?_) (fun k v k0 k1 => ?_)
    · by_cases e : k = m + l
      · rw [e, sp_set_eq]; exact o2.1
      · rw [sp_set_ne e, sp_set_ne e]; exact hB.1 k k0 k1
    · by_cases e : k = m + l
      · rw [e, sp_set_eq, o2.2 v, o.2 v]
        constructor
        · rintro ((q | q) | q)
          · exact Or.inl q
          · exact Or.inr ⟨rfl, Or.inl ⟨q, h1⟩⟩
          · exact Or.inr ⟨rfl, Or.inr ⟨q, h2⟩⟩
        · rintro (q | ⟨_, ⟨q, _⟩ | ⟨q, _⟩⟩)
          · exact Or.inl (Or.inl q)
          · exact Or.inl (Or.inr q)
          · exact Or.inr q
      · rw [sp_set_ne e, sp_set_ne e]
        exact ⟨Or.inl, fun q => q.resolve_right (fun x => e x.1)⟩
  have oneB : m + l ≤ 99 → (¬ J 39 a = -1 ∧ sp_go g f d a (g 0 + m)) → ¬ (¬ J 39 b = -1 ∧ sp_go g f d b (g 0 + m)) → Qr none (nw_u J 45 (m + l) (nw_xior (J 45 (m + l)) (nw_xishl 1 b)), L, W) := fun hle h1 h2 =>
    oneAt b ⟨by omega, by omega⟩ hle (fun v => ⟨fun q => Or.inl ⟨q, h1⟩, fun q => q.elim (fun q => q.1) (fun q => absurd q.2 h2)⟩)
  have oneA : m + l ≤ 99 → ¬ (¬ J 39 a = -1 ∧ sp_go g f d a (g 0 + m)) → (¬ J 39 b = -1 ∧ sp_go g f d b (g 0 + m)) → Qr none (nw_u J 45 (m + l) (nw_xior (J 45 (m + l)) (nw_xishl 1 a)), L, W) := fun hle h1 h2 =>
    oneAt a ⟨by omega, by omega⟩ hle (fun v => ⟨fun q => Or.inr ⟨q, h2⟩, fun q => q.elim (fun q => absurd q.2 h1) (fun q => q.1)⟩)
  rw [go, go] at two oneA oneB same
  refine b_X10_sendThrough_0 hD ?_
  rw [n3]
  refine ⟨by omega, t_tideIn (by omega) (by omega) ?_⟩
  refine b_X10_sendThrough_16 ?_
  rw [cr.1, cr.2.1, cr.2.2.1, cr.2.2.2, fr.1, ha, hb, hl, da, db, ht]
  refine ⟨by omega, by omega, by omega, by omega, fun q => ?_, fun q => ⟨fun z => ⟨by omega, fun y => ⟨by omega, fun w => ?_, fun w => ⟨by omega, fun u => ?_, fun u => ⟨by omega, ?_⟩⟩⟩, fun y => ⟨by omega, fun w => ⟨by omega, fun u => ?_, fun u => ⟨by omega, fun x => ?_, fun x => ⟨by omega, ?_⟩⟩⟩, fun w => ⟨by omega, by omega, fun u => ?_, fun u => ⟨by omega, fun x => ?_, fun x => ?_⟩⟩⟩⟩, fun z => ?_⟩⟩
  · exact same (fun _ x _ => by omega) (fun _ x _ => by omega)
  · exact same (fun _ x _ => x.2.1 y) (fun _ x _ => x.2.1 w)
  · exact same (fun _ x _ => x.2.1 y) (fun _ x _ => by omega)
  · exact oneA z (fun x => x.1 y) ⟨w, u, q⟩
  · exact same (fun _ x _ => by omega) (fun _ x _ => x.2.1 u)
  · exact same (fun _ x _ => by omega) (fun _ x _ => by omega)
  · exact oneA z (fun x => by omega) ⟨u, x, q⟩
  · exact oneB z ⟨y, w, q⟩ (fun x => x.1 u)
  · exact oneB z ⟨y, w, q⟩ (fun k => by omega)
  · exact two z ⟨y, w, q⟩ ⟨u, x, q⟩
  · exact same (fun _ _ x => by omega) (fun _ _ x => by omega)
end

