/-! hours pass in the reference; many hours on both sides -/
section
variable {sc : Nat × (Nat → Int32)} {D : Nat} {J L : Nat → Int → Int} {W : nw_W} {c sl : Nat} {Qr : nw_QR} {Qx : nw_QX} {g : Int → Int} {B : Int}
theorem inv_pass {g : Int → Int} {B : Int} (h : Inv g B) (hF : sp_fut g) : ∀ {n : Nat}, B + 4 * n ≤ 4000000 → Inv (sp_pass g n).1 (B + 4 * n) ∧ sp_fut (sp_pass g n).1 ∧ 0 ≤ (sp_pass g n).2 ∧ (sp_pass g n).2 ≤ 3 * n
  | 0, _ => ⟨by simpa [sp_pass] using h, hF, by simp [sp_pass], by simp [sp_pass]⟩
  | n + 1, hB => by
    obtain ⟨h1, h2, h3, h4⟩ := inv_pass h hF (n := n) (by omega)
    obtain ⟨k1, k2, k3, k4, _⟩ := inv_hour h1 h2 (by omega)
    refine ⟨?_, k2, ?_, ?_⟩
    · rw [show B + 4 * ((n + 1 : Nat) : Int) = B + 4 * n + 4 by omega]
      exact k1
    · show 0 ≤ (sp_pass g n).2 + (sp_hour (sp_pass g n).1).2
      omega
    · show (sp_pass g n).2 + (sp_hour (sp_pass g n).1).2 ≤ _
      omega
theorem t_X0_letPass {k : Int} (hR : RC J L g) (hI : Inv g B) (hF : sp_fut g) (hB : B + 200 ≤ 4000000) (hD : 4 ≤ D) (hQ0 : k < 1 ∨ 48 < k → Qr (some (.inl (-2))) (J, L, W)) (hQ : 1 ≤ k → k ≤ 48 → ∀ J', sp_fr 2 25 J J' → RC J' L (sp_pass g k.toNat).1 → Qr (some (.inl (sp_pass g k.toNat).2)) (J', L, W)) : NW sc d_X0_letPass D (0, [some (.inr (.inl (some 1))), some (.inl k), none, none], [], (J, L, W), c, sl) Qr Qx := by
  refine b_X0_letPass_0 ⟨fun q => hQ0 (Or.inl q), fun q1 => ⟨fun q2 => ?_, fun q => hQ0 (Or.inr q)⟩⟩
  have lp : ∀ (m : Nat) (n : Nat) (J1 : Nat → Int → Int), n ≤ k → (k - n).toNat = m → sp_fr 2 25 J J1 → RC J1 L (sp_pass g n).1 → NW sc d_X0_letPass D (18, [some (.inr (.inl (some 1))), some (.inl k), some (.inl ((sp_pass g n).2)), some (.inl ((n : Int)))], [], (J1, L, W), c, sl) Qr Qx := by
    intro m
    induction m using Nat.strongRecOn with
    | ind m ih =>
      intro n J1 hn hm hx hj
      obtain ⟨h1, h2, h3, h4⟩ := inv_pass hI hF (n := n) (by omega)
      refine b_X0_letPass_18 hD ⟨fun q => ?_, fun q => ?_⟩
      · have e : k.toNat = n := by omega
        have := hQ q1 q2 J1 hx
        rw [e] at this
        exact this hj
      · obtain ⟨k1, k2, k3, k4, _⟩ := inv_hour h1 h2 (by omega)
        refine t_X0_letOneHourPass hj h1 h2 (by omega) (by decide) (fun J2 hx2 hj2 => ?_)
        refine b_X0_letPass_28 ⟨by omega, by omega, ?_⟩
        have := ih _ (by omega) (n + 1) J2 (by omega) rfl (hx.trans hx2) hj2
        rw [show ((n + 1 : Nat) : Int) = (n : Int) + 1 by omega] at this
        exact this
  exact lp _ 0 J (by omega) rfl sp_fr.refl hR
end

