/-! describing a ferry -/
section
variable {sc : Nat × (Nat → Int32)} {D : Nat} {J L : Nat → Int → Int} {W : nw_W} {c sl : Nat} {Qr : nw_QR} {Qx : nw_QX} {g : Int → Int} {B : Int}
theorem t_X11_describeFerry {f n : Int} {l : Int → Int} {m : Nat} (hR : RC J L g) (hI : Inv g B) (h : sp_sb J W n l m) (hn : W.2.2.2.2 ≤ 990000) (hD : 14 ≤ D) (hc : 27 ≤ c) (hs : 4000 ≤ sl) (hE : ¬ sp_isF g f → ∀ n2, W.2.2.2.2 ≤ n2 → Qx 0 (J, L, nw_top W n2)) (hQ : sp_isF g f → ∀ J' L' W' m', sp_sb J' W' (sp_line g f l).1 (sp_line g f l).2 m' → sp_lf J J' → (∀ y, y < 303 → L' y = L y) → sp_wf W W' 26 → Qr (some (.inl (sp_line g f l).1)) (J', L', W')) : NW sc d_X11_describeFerry D (0, [some (.inr (.inl (some 0))), some (.inl f)], [], (J, L, W), c, sl) Qr Qx := by
  have k3 := hI.fe
  unfold sp_isF at hE hQ
  refine b_X11_describeFerry_0 hD (by omega) (by omega) ?_
  rw [hR.fe]
  refine ⟨fun q => hE (by omega), fun q1 => ⟨fun q => hE (by omega), fun q2 => ?_⟩⟩
  have nd := sp_nd10_1 (x := f) (by omega)
  refine t_setLength h (by omega) (by decide) (by decide) (by decide) (fun J1 L1 W1 m1 s1 f1 l1 w1 => ?_)
  have v1 := w1.2.2.2
  refine b_X11_describeFerry_13 hD (by omega) (by omega) ?_
  refine t_apI (P := (0, l)) s1 (by omega) (by show (0 : Int) ≤ 136; decide) (by omega) (by decide) (by decide) (by decide) (fun J2 L2 W2 m2 s2 f2 l2 w2 => ?_)
  have v2 := w2.2.2.2
  have w12 := w1.trans w2
  have R2 := (hR.lf hI f1 l1).lf hI f2 l2
  have p2 : (sp_aN f (0, l)).1 = 0 + sp_nd10 f := rfl
  refine b_X11_describeFerry_21 hD (by omega) (by omega) ?_
  have bp := sp_lpos_bd (P := sp_aN f (0, l)) hI ⟨q1, q2⟩
  refine t_X11_writePosition (P := sp_aN f (0, l)) R2 hI ⟨q1, q2⟩ s2 (by omega) (by omega) (by decide) (by decide) (by decide) (fun J3 L3 W3 m3 s3 f3 l3 w3 => ?_)
  have v3 := w3.2.2.2
  have w13 := w12.trans w3
  have R3 := R2.lf hI f3 l3
  refine b_X11_describeFerry_27 hD (by omega) (by omega) ?_
  refine t_X11_writeMoonsAboard (P := sp_lpos g f (sp_aN f (0, l))) R3 hI ⟨q1, q2⟩ s3 (by omega) (by omega) (by decide) (by decide) (by decide) (fun J4 L4 W4 m4 s4 f4 l4 w4 => b_X11_describeFerry_32 hD (b_J4_length_8abf5_0 (by decide) (b_X11_describeFerry_39 ?_)))
  have w14 := w13.trans w4
  rw [s4.1.2.1]
  exact hQ ⟨q1, q2⟩ J4 L4 W4 m4 s4 (((f1.trans f2).trans f3).trans f4) (fun y w => by rw [l4 y w, l3 y w, l2 y w, l1 y w]) ⟨w14.1, w14.2.1, w14.2.2.1, by have := w14.2.2.2; omega⟩
theorem t_X11_lineAt {i n : Int} {l : Int → Int} {m : Nat} (h : sp_sb J W n l m) (hl : ∀ k, 0 ≤ k → k < n → 0 ≤ l k ∧ l k < 128) (hD : 13 ≤ D) (hc : 1 ≤ c) (hs : 6 ≤ sl) (hE : ¬ (0 ≤ i ∧ i < n) → ∀ n2, W.2.2.2.2 ≤ n2 → Qx 0 (J, L, nw_top W n2)) (hQ : 0 ≤ i → i < n → Qr (some (.inl (l i))) (J, L, W)) : NW sc d_X11_lineAt D (0, [some (.inr (.inl (some 0))), some (.inl i)], [], (J, L, W), c, sl) Qr Qx := by
  refine b_X11_lineAt_0 hD hc hs ⟨fun q => hE (by omega), fun q => b_J4_length_8abf5_0 (by decide) (b_X11_lineAt_12 hD hc hs ?_)⟩
  rw [h.1.2.1]
  refine ⟨fun q1 => ?_, fun q1 => hE (by omega)⟩
  have hi := hl i q q1
  exact t_charAt h ⟨q, q1⟩ hi (by decide) (b_X11_lineAt_31 ⟨by omega, hQ q q1⟩)
end

