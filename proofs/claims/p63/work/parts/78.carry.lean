/-! a command carried out -/
section
variable {sc : Nat × (Nat → Int32)} {D : Nat} {J L : Nat → Int → Int} {W : nw_W} {c sl : Nat} {Qr : nw_QR} {Qx : nw_QX} {g : Int → Int} {B : Int}
/-- the values of a command that was read at x -/
def sp_pv (T : Int → Int) (n x : Int) (j : Nat) : Int := (sp_vs T n (sp_F (sp_kd T n x).toNat) (x, 0)).getD j 0
theorem t_carry {κ : Nat} {i : Int} {p : Nat → Int} (hκ : κ < 10) (hk : J 298 i = κ) (hp : ∀ j : Nat, j < sp_nd (sp_F κ) → J 300 (4 * i + j) = p j) (hi : 0 ≤ i ∧ i < 10) (hR : RC J L g) (hI : Inv g B) (hFu : sp_fut g) (hB : B + 200 ≤ 4000000) (hD : 15 ≤ D)
    (hF : ∀ e r, sp_of κ g (p 0) (p 1) (p 2) (p 3) e r → Qr (some (.inl e)) (if r = 0 then J else nw_u J 1 0 r, L, W))
    (hS : sp_oo κ g (p 0) (p 1) (p 2) (p 3) → ∀ J' L', sp_fr 2 54 J J' → sp_fr 2 2 L L' → RC J' L' (sp_og κ g (p 0) (p 1) (p 2) (p 3)) → Qr (some (.inl (sp_ov κ g (p 0) (p 1)))) (J', L', W)) : NW sc d_X11_carryOut D (0, [some (.inr (.inl (some 0))), some (.inl i), none, none, none, none], [], (J, L, W), c, sl) Qr Qx := by
  have nds : sp_nd (sp_F 0) = 1 ∧ sp_nd (sp_F 1) = 4 ∧ sp_nd (sp_F 2) = 3 ∧ sp_nd (sp_F 3) = 4 ∧ sp_nd (sp_F 4) = 2 ∧ sp_nd (sp_F 5) = 2 ∧ sp_nd (sp_F 6) = 1 ∧ sp_nd (sp_F 7) = 1 ∧ sp_nd (sp_F 8) = 1 ∧ sp_nd (sp_F 9) = 1 := by decide
  have q0 : 0 < sp_nd (sp_F κ) → J 300 (i * 4 + 0) = p 0 := fun z => by
    rw [← hp 0 z]
    congr 1
    omega
  have q1 : 1 < sp_nd (sp_F κ) → J 300 (i * 4 + 1) = p 1 := fun z => by
    rw [← hp 1 z]
    congr 1
    omega
  have q2 : 2 < sp_nd (sp_F κ) → J 300 (i * 4 + 2) = p 2 := fun z => by
    rw [← hp 2 z]
    congr 1
    omega
  have q3 : 3 < sp_nd (sp_F κ) → J 300 (i * 4 + 3) = p 3 := fun z => by
    rw [← hp 3 z]
    congr 1
    omega
  refine b_X11_carryOut_0 hD ⟨by omega, by omega, by omega, by omega, by omega, by omega, by omega, by omega, by omega, hi, ?_⟩
  rw [hk]
  have kk : κ = 0 ∨ κ = 1 ∨ κ = 2 ∨ κ = 3 ∨ κ = 4 ∨ κ = 5 ∨ κ = 6 ∨ κ = 7 ∨ κ = 8 ∨ κ = 9 := by omega
  rcases kk with rfl | rfl | rfl | rfl | rfl | rfl | rfl | rfl | rfl | rfl
  · refine ⟨fun _ => ?_, fun z => absurd rfl z⟩
    rw [q0 (by omega)]
    exact t_c0 hR hI hFu hB (by decide) (fun e r h => b_X11_carryOut_108 (hF e r h)) (fun h J1 L1 a b R => b_X11_carryOut_108 (hS h J1 L1 a b R))
  · refine ⟨fun z => absurd z (by decide), fun _ => ⟨fun _ => ?_, fun z => absurd rfl z⟩⟩
    rw [q0 (by omega), q1 (by omega), q2 (by omega), q3 (by omega)]
    exact t_c1 hR hI hFu hB (by decide) (fun e r h => b_X11_carryOut_122 (hF e r h)) (fun h J1 L1 a b R => b_X11_carryOut_122 (hS h J1 L1 a b R))
  · refine ⟨fun z => absurd z (by decide), fun _ => ⟨fun z => absurd z (by decide), fun _ => ⟨fun _ => ?_, fun z => absurd rfl z⟩⟩⟩
    rw [q0 (by omega), q1 (by omega), q2 (by omega)]
    exact t_c2 hR hI hFu hB (by decide) (fun e r h => b_X11_carryOut_134 (hF e r h)) (fun h J1 L1 a b R => b_X11_carryOut_134 (hS h J1 L1 a b R))
  · refine ⟨fun z => absurd z (by decide), fun _ => ⟨fun z => absurd z (by decide), fun _ => ⟨fun z => absurd z (by decide), fun _ => ⟨fun _ => ?_, fun z => absurd rfl z⟩⟩⟩⟩
    rw [q0 (by omega), q1 (by omega), q2 (by omega), q3 (by omega)]
    exact t_c3 hR hI hFu hB (by decide) (fun e r h => b_X11_carryOut_148 (hF e r h)) (fun h J1 L1 a b R => b_X11_carryOut_148 (hS h J1 L1 a b R))
  · refine ⟨fun z => absurd z (by decide), fun _ => ⟨fun z => absurd z (by decide), fun _ => ⟨fun z => absurd z (by decide), fun _ => ⟨fun z => absurd z (by decide), fun _ => ⟨fun _ => ?_, fun z => absurd rfl z⟩⟩⟩⟩⟩
    rw [q0 (by omega), q1 (by omega)]
    exact t_c4 hR hI hFu hB (by decide) (fun e r h => b_X11_carryOut_158 (hF e r h)) (fun h J1 L1 a b R => b_X11_carryOut_158 (hS h J1 L1 a b R))
  · refine ⟨fun z => absurd z (by decide), fun _ => ⟨fun z => absurd z (by decide), fun _ => ⟨fun z => absurd z (by decide), fun _ => ⟨fun z => absurd z (by decide), fun _ => ⟨fun z => absurd z (by decide), fun _ => ⟨fun _ => ?_, fun z => absurd rfl z⟩⟩⟩⟩⟩⟩
    rw [q0 (by omega), q1 (by omega)]
    exact t_c5 hR hI hFu hB (by decide) (fun e r h => b_X11_carryOut_168 (hF e r h)) (fun h J1 L1 a b R => b_X11_carryOut_168 (hS h J1 L1 a b R))
  · refine ⟨fun z => absurd z (by decide), fun _ => ⟨fun z => absurd z (by decide), fun _ => ⟨fun z => absurd z (by decide), fun _ => ⟨fun z => absurd z (by decide), fun _ => ⟨fun z => absurd z (by decide), fun _ => ⟨fun z => absurd z (by decide), fun _ => ⟨fun _ => ?_, fun z => absurd rfl z⟩⟩⟩⟩⟩⟩⟩
    rw [q0 (by omega)]
    exact t_c6 hR hI hFu hB (by decide) (fun e r h => b_X11_carryOut_177 (hF e r h)) (fun h J1 L1 a b R => b_X11_carryOut_177 (hS h J1 L1 a b R))
  · refine ⟨fun z => absurd z (by decide), fun _ => ⟨fun z => absurd z (by decide), fun _ => ⟨fun z => absurd z (by decide), fun _ => ⟨fun z => absurd z (by decide), fun _ => ⟨fun z => absurd z (by decide), fun _ => ⟨fun z => absurd z (by decide), fun _ => ⟨fun z => absurd z (by decide), fun _ => ⟨fun _ => ?_, fun z => absurd rfl z⟩⟩⟩⟩⟩⟩⟩⟩
    rw [q0 (by omega)]
    exact t_c7 hR hI hFu hB (by decide) (fun e r h => b_X11_carryOut_186 (hF e r h)) (fun h J1 L1 a b R => b_X11_carryOut_186 (hS h J1 L1 a b R))
  · refine ⟨fun z => absurd z (by decide), fun _ => ⟨fun z => absurd z (by decide), fun _ => ⟨fun z => absurd z (by decide), fun _ => ⟨fun z => absurd z (by decide), fun _ => ⟨fun z => absurd z (by decide), fun _ => ⟨fun z => absurd z (by decide), fun _ => ⟨fun z => absurd z (by decide), fun _ => ⟨fun z => absurd z (by decide), fun _ => ⟨fun _ => ?_, fun z => absurd rfl z⟩⟩⟩⟩⟩⟩⟩⟩⟩
    rw [q0 (by omega)]
    exact t_c8 hR hI hFu hB (by decide) (fun e r h => b_X11_carryOut_195 (hF e r h)) (fun h J1 L1 a b R => b_X11_carryOut_195 (hS h J1 L1 a b R))
  · refine ⟨fun z => absurd z (by decide), fun _ => ⟨fun z => absurd z (by decide), fun _ => ⟨fun z => absurd z (by decide), fun _ => ⟨fun z => absurd z (by decide), fun _ => ⟨fun z => absurd z (by decide), fun _ => ⟨fun z => absurd z (by decide), fun _ => ⟨fun z => absurd z (by decide), fun _ => ⟨fun z => absurd z (by decide), fun _ => ⟨fun z => absurd z (by decide), fun _ => ?_⟩⟩⟩⟩⟩⟩⟩⟩⟩
    rw [q0 (by omega)]
    exact t_c9 hR hI hFu hB (by decide) (fun e r h => b_X11_carryOut_204 (hF e r h)) (fun h J1 L1 a b R => b_X11_carryOut_204 (hS h J1 L1 a b R))
end

