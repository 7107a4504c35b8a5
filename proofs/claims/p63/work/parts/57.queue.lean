/-! arrivals by queue: contracts -/
section
variable {sc : Nat × (Nat → Int32)} {D : Nat} {J L : Nat → Int → Int} {W : nw_W} {c sl : Nat} {Qr : nw_QR} {Qx : nw_QX} {g : Int → Int} {B : Int}
theorem sp_tide_per (x w : Int) : sp_tide (x + w) = sp_tide (x + w % 12) := by
  unfold sp_tide
  have : (x + w) % 12 = (x + w % 12) % 12 := by omega
  rw [this]
theorem t_X10_hoursToWait {h n : Int} (hh : 0 ≤ h ∧ h < 90000000) (hD : 2 ≤ D) (hQ1 : ∀ w, 0 ≤ w → w < 12 → n ≤ sp_tide (h + w) → (∀ x, 0 ≤ x → x < w → sp_tide (h + x) < n) → Qr (some (.inl w)) (J, L, W)) (hQ0 : (∀ w, 0 ≤ w → sp_tide (h + w) < n) → Qr (some (.inl (-1))) (J, L, W)) : NW sc d_X10_hoursToWait D (0, [some (.inl h), some (.inl n), none], [], (J, L, W), c, sl) Qr Qx := by
  have lp : ∀ (r : Nat) (w : Int), 0 ≤ w → w ≤ 12 → (12 - w).toNat = r → (∀ x, 0 ≤ x → x < w → sp_tide (h + x) < n) → NW sc d_X10_hoursToWait D (2, [some (.inl h), some (.inl n), some (.inl w)], [], (J, L, W), c, sl) Qr Qx := by
    intro r9
    induction r9 using Nat.strongRecOn with
    | ind r9 ih =>
      intro w w0 w1 hr hw
      refine b_X10_hoursToWait_2 hD ⟨fun q => hQ0 (fun x x0 => ?_), fun q => ⟨by omega, t_tideIn (by omega) (by omega) ?_⟩⟩
      · rw [sp_tide_per]
        exact hw _ (by omega) (by omega)
      · refine b_X10_hoursToWait_14 ⟨fun z => ⟨by omega, ?_⟩, fun z => hQ1 w w0 q z hw⟩
        refine ih _ (by omega) (w + 1) (by omega) (by omega) rfl (fun x x0 x1 => ?_)
        by_cases e : x = w
        · rw [e]; exact z
        · exact hw x x0 (by omega)
  exact b_X10_hoursToWait_0 (lp _ 0 (by omega) (by omega) rfl (fun x a b => by omega))
end

