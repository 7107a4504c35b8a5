/-! describing a ferry: the reference -/
section
variable {sc : Nat × (Nat → Int32)} {D : Nat} {J L : Nat → Int → Int} {W : nw_W} {c sl : Nat} {Qr : nw_QR} {Qx : nw_QX} {g : Int → Int} {B : Int}
def sp_md (J : Nat → Int → Int) (P : Int × (Int → Int)) (J1 : Nat → Int → Int) : Prop := (J1 303 12 = P.1 ∧ J1 309 = P.2) ∧ (∀ x, ¬ (x = 303 ∨ x = 309) → J1 x = J x) ∧ ∀ k, ¬ k = 12 → J1 303 k = J 303 k
section
variable {P : Int × (Int → Int)} {J0 : Nat → Int → Int}
theorem sp_md.w {J1 : Nat → Int → Int} {x y : Int} (h : sp_md J0 P J1) (e : y = x) : sp_md J0 (sp_aC x P) (nw_u (nw_u J1 309 P.1 y) 303 12 (P.1 + 1)) := by
  refine ⟨⟨nw_uS, ?_⟩, fun z w => ?_, fun k w => ?_⟩
  · rw [nw_uP (by decide)]
    funext k
    show _ = if k = P.1 then x else P.2 k
    by_cases z : k = P.1
    · rw [z, nw_uS, if_pos rfl, e]
    · rw [nw_uI z, if_neg z, h.1.2]
  · have w1 : ¬ z = 303 := fun e => w (Or.inl e)
    have w2 : ¬ z = 309 := fun e => w (Or.inr e)
    rw [nw_uP w1, nw_uP w2]
    exact h.2.1 z w
  · rw [nw_uI w, nw_uP (by decide)]
    exact h.2.2 k w
end
end

