/-! describing a ferry -/
section
variable {sc : Nat × (Nat → Int32)} {D : Nat} {J L : Nat → Int → Int} {W : nw_W} {c sl : Nat} {Qr : nw_QR} {Qx : nw_QX} {g : Int → Int} {B : Int}
theorem t_X11_describeFerry {f n : Int} {l : Int → Int} {m : Nat} (hR : RC J L g) (hI : Inv g B) (h : sp_sb J W n l m) (hn : W.2.2.2.2 ≤ 900000) (hD : 14 ≤ D) (hc : 27 ≤ c) (hs : 4000 ≤ sl) (hE : ¬ sp_isF g f → ∀ n2, W.2.2.2.2 ≤ n2 → Qx 0 (J, L, nw_top W n2)) (hQ : sp_isF g f → ∀ J' L' W' m', sp_sb J' W' (sp_line g f l).1 (sp_line g f l).2 m' → sp_lf J J' → (∀ y, y < 316 → L' y = L y) → sp_wf W W' 26 → Qr (some (.inl (sp_line g f l).1)) (J', L', W')) : NW sc d_X11_describeFerry D (0, [some (.inr (.inl (some 0))), some (.inl f)], [], (J, L, W), c, sl) Qr Qx := by
  have k3 := hI.fe
  unfold sp_isF at hE hQ
  refine b_X11_describeFerry_0 hD (by omega) (by omega) ?_
  rw [hR.fe]
  refine ⟨fun q => hE (by omega), fun q1 => ⟨fun q => hE (by omega), fun q2 => ?_⟩⟩
  have nd := sp_nd10_1 (x := f) (by omega)
  refine t_setLength h (by omega) (by decide) (by decide) (by decide) (fun J1 L1 W1 m1 s1 f1 l1 w1 => ?_)
  have v1 := w1.2.2.2
  refine b_X11_describeFerry_13 hD (by omega) (by omega) ?_
  refine t_apI (P := (0, l)) s1 (by omega) (by show (0 : Int) ≤ 136; decide) (by omega) (by decide) (by decide) (by decide) (fun J2 L2 W2 m2 s2 f2 l2 w2 => ?_)
  have v2 := w2.2.2.2
  have w12 := w1.trans w2
  have R2 := (hR.lf hI f1 l1).lf hI f2 l2
  have p2 : (sp_aN f (0, l)).1 = 0 + sp_nd10 f := rfl
  refine b_X11_describeFerry_21 hD (by omega) (by omega) ?_
  have bp := sp_lpos_bd (P := sp_aN f (0, l)) hI ⟨q1, q2⟩
  refine t_X11_writePosition (P := sp_aN f (0, l)) R2 hI ⟨q1, q2⟩ s2 (by omega) (by omega) (by decide) (by decide) (by decide) (fun J3 L3 W3 m3 s3 f3 l3 w3 => ?_)
  have v3 := w3.2.2.2
  have w13 := w12.trans w3
  have R3 := R2.lf hI f3 l3
  refine b_X11_describeFerry_27 hD (by omega) (by omega) ?_
  refine t_X11_writeMoonsAboard (P := sp_lpos g f (sp_aN f (0, l))) R3 hI ⟨q1, q2⟩ s3 (by omega) (by omega) (by decide) (by decide) (by decide) (fun J4 L4 W4 m4 s4 f4 l4 w4 => b_X11_describeFerry_32 hD (b_J4_length_8abf5_0 (by decide) (b_X11_describeFerry_39 ?_)))
  have w14 := w13.trans w4
  rw [s4.1.2.1]
  exact hQ ⟨q1, q2⟩ J4 L4 W4 m4 s4 (((f1.trans f2).trans f3).trans f4) (fun y w => by rw [l4 y w, l3 y w, l2 y w, l1 y w]) ⟨w14.1, w14.2.1, w14.2.2.1, by have := w14.2.2.2; omega⟩
theorem t_X11_lineAt {i n : Int} {l : Int → Int} {m : Nat} (h : sp_sb J W n l m) (hl : ∀ k, 0 ≤ k → k < n → 0 ≤ l k ∧ l k < 128) (hD : 13 ≤ D) (hc : 1 ≤ c) (hs : 6 ≤ sl) (hE : ¬ (0 ≤ i ∧ i < n) → ∀ n2, W.2.2.2.2 ≤ n2 → Qx 0 (J, L, nw_top W n2)) (hQ : 0 ≤ i → i < n → Qr (some (.inl (l i))) (J, L, W)) : NW sc d_X11_lineAt D (0, [some (.inr (.inl (some 0))), some (.inl i)], [], (J, L, W), c, sl) Qr Qx := by
  refine b_X11_lineAt_0 hD hc hs ⟨fun q => hE (by omega), fun q => b_J4_length_8abf5_0 (by decide) (b_X11_lineAt_12 hD hc hs ?_)⟩
  rw [h.1.2.1]
  refine ⟨fun q1 => ?_, fun q1 => hE (by omega)⟩
  have hi := hl i q q1
  exact t_charAt h ⟨q, q1⟩ hi (by decide) (b_X11_lineAt_31 ⟨by omega, hQ q q1⟩)
theorem t_X12_writesNumber {v n : Int} {l : Int → Int} (hv : 0 ≤ v ∧ v < 1000000) (h12 : J 303 12 = n) (hl : J 309 = l) (n0 : 0 ≤ n ∧ n + sp_nd10 v ≤ 80) (hD : 1 ≤ D) (hQ : ∀ J', (∀ x, ¬ (x = 303 ∨ x = 309) → J' x = J x) → (∀ k, ¬ k = 12 → J' 303 k = J 303 k) → J' 303 12 = (sp_aN v (n, l)).1 → J' 309 = (sp_aN v (n, l)).2 → Qr none (J', L, W)) : NW sc d_X12_writesNumber D (0, [some (.inr (.inl (some 303))), some (.inl v), none], [], (J, L, W), c, sl) Qr Qx := by
  have nd := sp_nd10_rng v
  obtain ⟨d, hd⟩ : ∃ d, sp_nd10 v = d := ⟨_, rfl⟩
  rw [hd] at nd n0
  have hQ : ∀ J', (∀ x, ¬ (x = 303 ∨ x = 309) → J' x = J x) → (∀ k, ¬ k = 12 → J' 303 k = J 303 k) → J' 303 12 = n + d → J' 309 = (fun k => if n ≤ k ∧ k < n + d then 48 + v / 10 ^ (n + d - 1 - k).toNat % 10 else l k) → Qr none (J', L, W) := fun J' a1 a2 a3 a4 => hQ J' a1 a2 (by show _ = n + sp_nd10 v; rw [hd]; exact a3) (by show _ = sp_num n v l; unfold sp_num; rw [hd]; exact a4)
  have lp : ∀ (j : Nat) (u : Int) (J1 : Nat → Int → Int), (j : Int) ≤ d → (∀ i : Nat, j = i + 1 → u = 10 ^ i) → (j = 0 → u = 0) → (∀ x, ¬ (x = 303 ∨ x = 309) → J1 x = J x) → (∀ k, ¬ k = 12 → J1 303 k = J 303 k) → J1 303 12 = n + d - j → J1 309 = (fun k => if n ≤ k ∧ k < n + d - j then 48 + v / 10 ^ (n + d - 1 - k).toNat % 10 else l k) → NW sc d_X12_writesNumber D (22, [some (.inr (.inl (some 303))), some (.inl v), some (.inl u)], [], (J1, L, W), c, sl) Qr Qx := by
    intro j
    induction j with
    | zero =>
      intro u J1 hj hu hu0 a1 a2 a3 a4
      refine b_X12_writesNumber_22 hD ⟨fun _ => hQ J1 a1 a2 (by omega) ?_, fun q => by have := hu0 rfl; omega⟩
      rw [a4]
      rw [show n + d - ((0 : Nat) : Int) = n + d by omega]
    | succ j ih =>
      intro u J1 hj hu hu0 a1 a2 a3 a4
      have hu := hu j rfl
      have up : 0 < u := by rw [hu]; exact Int.pow_pos (by decide)
      refine b_X12_writesNumber_22 hD ⟨fun q => by omega, fun _ => ?_⟩
      have dv : 0 ≤ v / u := Int.ediv_nonneg hv.1 (by omega)
      rw [a3]
      refine ⟨⟨hv.1, up⟩, dv, by omega, by omega, by omega, by omega, by omega, ?_⟩
      refine ih (u / 10) _ (by omega) (fun i e => ?_) (fun e => ?_) (fun x w => ?_) (fun k w => ?_) ?_ ?_
      · rw [hu, e, Int.pow_succ]
        exact Int.mul_ediv_cancel _ (by decide)
      · rw [hu, e]
        decide
      · have w1 : ¬ x = 303 := fun e => w (Or.inl e)
        have w2 : ¬ x = 309 := fun e => w (Or.inr e)
        rw [nw_uP w1, nw_uP w2]
        exact a1 x w
      · rw [nw_uI w, nw_uP (by decide)]
        exact a2 k w
      · rw [nw_uS]
        omega
      · rw [nw_uP (by decide)]
        funext k
        by_cases z : k = n + d - ((j + 1 : Nat) : Int)
        · rw [z, nw_uS]
          show _ = if n ≤ n + d - ((j + 1 : Nat) : Int) ∧ n + d - ((j + 1 : Nat) : Int) < n + d - (j : Int) then 48 + v / 10 ^ (n + d - 1 - (n + d - ((j + 1 : Nat) : Int))).toNat % 10 else l (n + d - ((j + 1 : Nat) : Int))
          rw [if_pos (by omega), show (n + d - 1 - (n + d - ((j + 1 : Nat) : Int))).toNat = j by omega, hu]
          have : 0 ≤ v / 10 ^ j := by rw [← hu]; exact dv
          omega
        · rw [nw_uI z, a4]
          show (if n ≤ k ∧ k < n + d - ((j + 1 : Nat) : Int) then 48 + v / 10 ^ (n + d - 1 - k).toNat % 10 else l k) = if n ≤ k ∧ k < n + d - (j : Int) then 48 + v / 10 ^ (n + d - 1 - k).toNat % 10 else l k
          by_cases y : n ≤ k ∧ k < n + d - ((j + 1 : Nat) : Int)
          · rw [if_pos y, if_pos (by omega)]
          · rw [if_neg y, if_neg (by omega)]
  have go : ∀ (i : Nat) (u : Int), u = 10 ^ i → d = ((i + 1 : Nat) : Int) → NW sc d_X12_writesNumber D (22, [some (.inr (.inl (some 303))), some (.inl v), some (.inl u)], [], (J, L, W), c, sl) Qr Qx := fun i u hu e => lp (i + 1) u J (by omega) (fun i' e' => by rw [hu, show i' = i by omega]) (fun e' => by omega) (fun _ _ => rfl) (fun _ _ => rfl) (by omega) (by
    rw [hl]
    funext k
    rw [if_neg (by omega)])
  unfold sp_nd10 at hd
  refine b_X12_writesNumber_0 ?_
  refine b_X12_writesNumber_4 ⟨fun z => absurd z (by decide), fun _ => ⟨fun q => go 5 _ (by decide) (by omega), fun q => ⟨by decide, ?_⟩⟩⟩
  refine b_X12_writesNumber_4 ⟨fun z => absurd z (by decide), fun _ => ⟨fun q => go 4 _ (by decide) (by omega), fun q => ⟨by decide, ?_⟩⟩⟩
  refine b_X12_writesNumber_4 ⟨fun z => absurd z (by decide), fun _ => ⟨fun q => go 3 _ (by decide) (by omega), fun q => ⟨by decide, ?_⟩⟩⟩
  refine b_X12_writesNumber_4 ⟨fun z => absurd z (by decide), fun _ => ⟨fun q => go 2 _ (by decide) (by omega), fun q => ⟨by decide, ?_⟩⟩⟩
  refine b_X12_writesNumber_4 ⟨fun z => absurd z (by decide), fun _ => ⟨fun q => go 1 _ (by decide) (by omega), fun q => ⟨by decide, ?_⟩⟩⟩
  exact b_X12_writesNumber_4 ⟨fun _ => go 0 _ (by decide) (by omega), fun z => absurd z (by decide)⟩
end
