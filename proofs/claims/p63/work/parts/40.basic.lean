/-! craters, channels, tides: contracts -/
section
variable {sc : Nat × (Nat → Int32)} {D : Nat} {J L : Nat → Int → Int} {W : nw_W} {c sl : Nat} {Qr : nw_QR} {Qx : nw_QX} {g : Int → Int} {B : Int}
theorem t_X9_findChannel {a b : Int} (hR : RC J L g) (hI : Inv g B) (hb : 0 ≤ b) (hD : 1 ≤ D) (hQ : ∀ r, sp_btw g a b r → Qr (some (.inl r)) (J, L, W)) : NW sc d_X9_findChannel D (0, [some (.inr (.inl (some 3))), some (.inl a), some (.inl b), none], [], (J, L, W), c, sl) Qr Qx := by
  refine b_X9_findChannel_0 ?_
  have lp : ∀ (m : Nat) (i : Int), 0 ≤ i → (g 2 - i).toNat = m → (∀ j, 0 ≤ j → j < i → ¬ sp_con g a b j) → NW sc d_X9_findChannel D (2, [some (.inr (.inl (some 3))), some (.inl a), some (.inl b), some (.inl i)], [], (J, L, W), c, sl) Qr Qx := by
    intro m
    induction m using Nat.strongRecOn with
    | ind m ih =>
      intro i h0 hm hp
      have e1 := hR.ch
      have e2 := hI.ch
      have e3 := hR.cha i h0
      have e4 := hI.cha i h0
      have fin : g 2 ≤ i → Qr (some (.inl (-1))) (J, L, W) := fun q => hQ _ (Or.inl ⟨rfl, fun j a b => hp j a (by omega)⟩)
      have ret : i < g 2 → sp_con g a b i → Qr (some (.inl i)) (J, L, W) := fun q z => hQ _ (Or.inr ⟨h0, q, z, hp⟩)
      have nxt : i < g 2 → ¬ sp_con g a b i → NW sc d_X9_findChannel D (2, [some (.inr (.inl (some 3))), some (.inl a), some (.inl b), some (.inl (i + 1))], [], (J, L, W), c, sl) Qr Qx := fun q z => ih _ (by omega) (i + 1) (by omega) rfl (fun j a b => if e : j = i then e ▸ z else hp j a (by omega))
      unfold sp_con at ret nxt
      refine b_X9_findChannel_2 hD ?_
      (repeat' (first | refine And.intro ?_ ?_ | refine fun _ => ?_))
      all_goals first
        | omega
        | exact fin (by omega)
        | exact ret (by omega) (by omega)
        | exact nxt (by omega) (by omega)
  exact lp _ 0 (by omega) rfl (fun j a b => by omega)
end

