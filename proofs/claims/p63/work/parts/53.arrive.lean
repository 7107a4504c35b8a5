/-! earliest arrivals: the word, and the reference's contracts -/
section
variable {sc : Nat × (Nat → Int32)} {D : Nat} {J L : Nat → Int → Int} {W : nw_W} {c sl : Nat} {Qr : nw_QR} {Qx : nw_QX} {g : Int → Int} {B : Int}
/-- the hour at which ferry f is ashore first -/
def sp_t0 (g : Int → Int) (f : Int) : Int := if 0 < g (62 + f) then g (62 + f) else g 0
/-- from u through channel d at hour s -/
def sp_go (g : Int → Int) (f d u s : Int) : Prop := ¬ sp_low g f u s ∧ sp_opn g f d s
/-- over k channels, in crater v by hour t -/
def sp_rc (g : Int → Int) (f : Int) : Nat → Int → Int → Prop
  | 0, v, t => v = g (56 + f) ∧ sp_t0 g f ≤ t
  | k + 1, v, t => ∃ d u s, 0 ≤ d ∧ d < g 2 ∧ sp_con g u v d ∧ sp_rc g f k u s ∧ sp_go g f d u s ∧ s + g (36 + d) ≤ t
def sp_ra (g : Int → Int) (f v t : Int) : Prop := ∃ k, sp_rc g f k v t
theorem sp_t0_rng {g : Int → Int} {B f : Int} (hI : Inv g B) (hf : 0 ≤ f ∧ f < g 3) : g 0 ≤ sp_t0 g f ∧ sp_t0 g f ≤ g 0 + 9 := by
  have := hI.fer f hf.1 hf.2
  unfold sp_t0
  split <;> omega
theorem sp_con_in {g : Int → Int} {B u v d : Int} (hI : Inv g B) (hd : 0 ≤ d ∧ d < g 2) (h : sp_con g u v d) : (0 ≤ u ∧ u < g 1) ∧ (0 ≤ v ∧ v < g 1) ∧ 1 ≤ g (36 + d) ∧ g (36 + d) ≤ 9 ∧ ¬ u = v := by
  have ci := hI.cha d hd.1 hd.2
  rcases h with ⟨a, b⟩ | ⟨a, b⟩ <;> omega
theorem sp_rc_rng {g : Int → Int} {B f : Int} (hI : Inv g B) (hf : 0 ≤ f ∧ f < g 3) : ∀ {k : Nat} {v t : Int}, sp_rc g f k v t → (0 ≤ v ∧ v < g 1) ∧ g 0 ≤ t
  | 0, v, t, h => by
    have := hI.fer f hf.1 hf.2
    have := sp_t0_rng hI hf
    have h1 := h.1
    have h2 := h.2
    omega
  | k + 1, v, t, ⟨d, u, s, d0, d1, hc, hr, _, hs⟩ => by
    have a := sp_con_in hI ⟨d0, d1⟩ hc
    have b := sp_rc_rng hI hf hr
    omega
/-- what an array of hours keeps: at hour h the channels of R are done -/
def sp_ai (g : Int → Int) (f : Int) (A : Int → Int) (h : Int) (R : Int → Int → Prop) : Prop :=
  (∀ v, 0 ≤ v → v < g 1 → A v ≤ 100000000 ∧ g 0 ≤ A v ∧ (A v < 100000000 → sp_ra g f v (A v))) ∧ A (g (56 + f)) ≤ sp_t0 g f ∧ (∀ d u v s, 0 ≤ d → d < g 2 → sp_con g u v d → (s < h ∨ (s = h ∧ R d u)) → A u ≤ s → sp_go g f d u s → A v ≤ s + g (36 + d))
theorem sp_ai_try {g : Int → Int} {B f : Int} {A : Int → Int} {h d u v w : Int} {R : Int → Int → Prop} (hI : Inv g B) (hd : 0 ≤ d ∧ d < g 2) (hc : sp_con g u v d) (hh : 0 ≤ h ∧ h < 90000000) (hA : sp_ai g f A h R) (hw : (w = A v ∧ (A u ≤ h → sp_go g f d u h → A v ≤ h + g (36 + d))) ∨ (w = h + g (36 + d) ∧ w ≤ A v ∧ A u ≤ h ∧ sp_go g f d u h)) : sp_ai g f (sp_set A v w) h (fun x y => R x y ∨ (x = d ∧ y = u)) := by
  have cr := sp_con_in hI hd hc
  have le : ∀ x, sp_set A v w x ≤ A x := fun x => by
    by_cases e : x = v
    · rw [e, sp_set_eq]
      omega
    · rw [sp_set_ne e]
      exact Int.le_refl _
  have new : ∀ x s, s ≤ h → sp_set A v w x ≤ s → A x ≤ s := fun x s hs q => by
    by_cases e : x = v
    · rw [e, sp_set_eq] at q
      rw [e]
      omega
    · rw [sp_set_ne e] at q
      exact q
  refine ⟨fun x x0 x1 => ?_, Int.le_trans (le _) hA.2.1, fun d' x y s d0 d1 hxy hs ha hg => ?_⟩
  · by_cases e : x = v
    · rw [e, sp_set_eq]
      have a := hA.1 v (by omega) (by omega)
      have b := hA.1 u (by omega) (by omega)
      rcases hw with ⟨e1, _⟩ | ⟨e1, e2, e3, e4⟩
      · rw [e1]; exact a
      · refine ⟨by omega, by omega, fun _ => ?_⟩
        obtain ⟨k, hk⟩ := b.2.2 (by omega)
        have mono : ∀ {k : Nat} {x s t : Int}, s ≤ t → sp_rc g f k x s → sp_rc g f k x t := fun {k x s t} st q => by
          cases k with
          | zero => exact ⟨q.1, Int.le_trans q.2 st⟩
          | succ k =>
            obtain ⟨a1, a2, a3, a4, a5, a6, a7, a8, a9⟩ := q
            exact ⟨a1, a2, a3, a4, a5, a6, a7, a8, Int.le_trans a9 st⟩
        exact ⟨k + 1, d, u, h, hd.1, hd.2, hc, mono e3 hk, e4, by omega⟩
    · rw [sp_set_ne e]
      exact hA.1 x x0 x1
  · have ha' := new x s (by omega) ha
    by_cases z : s < h ∨ (s = h ∧ R d' x)
    · exact Int.le_trans (le y) (hA.2.2 d' x y s d0 d1 hxy z ha' hg)
    · have z1 : s = h ∧ d' = d ∧ x = u := by
        rcases hs with q | ⟨q, q1 | q1⟩
        · exact absurd (Or.inl q) z
        · exact absurd (Or.inr ⟨q, q1⟩) z
        · exact ⟨q, q1⟩
      obtain ⟨z1, z2, z3⟩ := z1
      have yv : y = v := by
        rw [z2, z3] at hxy
        rcases hxy with ⟨p1, p2⟩ | ⟨p1, p2⟩ <;> rcases hc with ⟨p3, p4⟩ | ⟨p3, p4⟩ <;> omega
      rw [z2, z3, z1] at hg
      rw [z3, z1] at ha'
      rw [yv, sp_set_eq, z1, z2]
      rcases hw with ⟨e1, e2⟩ | ⟨e1, _⟩
      · rw [e1]; exact e2 ha' hg
      · rw [e1]; exact Int.le_refl _
theorem sp_ai_end {g : Int → Int} {B f : Int} {A : Int → Int} {h : Int} {R : Int → Int → Prop} (hI : Inv g B) (hf : 0 ≤ f ∧ f < g 3) (hA : sp_ai g f A h R) : ∀ {k : Nat} {v t : Int}, sp_rc g f k v t → t ≤ h → A v ≤ t
  | 0, v, t, q, _ => by
    have q1 := q.1
    have q2 := q.2
    rw [q1]
    exact Int.le_trans hA.2.1 q2
  | k + 1, v, t, ⟨d, u, s, d0, d1, hc, hr, hg, hs⟩, ht => by
    have cr := sp_con_in hI ⟨d0, d1⟩ hc
    have := sp_ai_end hI hf hA hr (by omega)
    exact Int.le_trans (hA.2.2 d u v s d0 d1 hc (Or.inl (by omega)) this hg) hs
/-- the earliest hour -/
def sp_ea (g : Int → Int) (f v x : Int) : Prop := sp_ra g f v x ∧ ∀ t, sp_ra g f v t → x ≤ t
end

