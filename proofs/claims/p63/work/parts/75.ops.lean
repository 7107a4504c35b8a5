/-! the eleven changes together -/
section
variable {sc : Nat × (Nat → Int32)} {D : Nat} {J L : Nat → Int → Int} {W : nw_W} {c sl : Nat} {Qr : nw_QR} {Qx : nw_QX} {g : Int → Int} {B : Int}
/-- change κ with a, b, c, d fails with the answer e and the reason r -/
def sp_of (κ : Nat) (g : Int → Int) (a b c d e r : Int) : Prop := match κ with
  | 0 => r = 0 ∧ sp_fCrater g a e
  | 1 => r = 0 ∧ sp_fChannel g a b c d e
  | 2 => r = 0 ∧ sp_fFerry g a b c e
  | 3 => r = 0 ∧ sp_fMoon g a b c d e
  | 4 => sp_fSail g a b e r
  | 5 => sp_fBoard g a b e r
  | 6 => r = 0 ∧ sp_fLand g a e
  | 7 => r = 0 ∧ sp_fLoad g a e
  | 8 => r = 0 ∧ sp_fRescue g a e
  | 9 => r = 0 ∧ e = -2 ∧ (a < 1 ∨ 48 < a)
  | _ => r = 0 ∧ sp_fDrop g a e
def sp_oo (κ : Nat) (g : Int → Int) (a b c d : Int) : Prop := match κ with
  | 0 => sp_oCrater g a
  | 1 => sp_oChannel g a b c d
  | 2 => sp_oFerry g a b c
  | 3 => sp_oMoon g a b c d
  | 4 => sp_oSail g a b
  | 5 => sp_oBoard g a b
  | 6 => sp_oLand g a
  | 7 => sp_oLoad g a
  | 8 => sp_oRescue g a
  | 9 => 1 ≤ a ∧ a ≤ 48
  | _ => sp_oDrop g a
noncomputable def sp_og (κ : Nat) (g : Int → Int) (a b c d : Int) : Int → Int := match κ with
  | 0 => sp_gCrater g a
  | 1 => sp_gChannel g a b c d
  | 2 => sp_gFerry g a b c
  | 3 => sp_gMoon g a b c d
  | 4 => sp_gSail g a b (sp_btwF g (g (56 + a)) b)
  | 5 => sp_gBoard g a (sp_plcF g b)
  | 6 => sp_gLand g (sp_plcF g a)
  | 7 => sp_gLoad g a
  | 8 => sp_gRescue g a
  | 9 => (sp_pass g a.toNat).1
  | _ => sp_gDrop g a
noncomputable def sp_ov (κ : Nat) (g : Int → Int) (a b : Int) : Int := match κ with
  | 0 => g 1
  | 1 => g 2
  | 2 => g 3
  | 3 => g 5
  | 4 => g 0 + g (36 + sp_btwF g (g (56 + a)) b)
  | 5 => sp_car g a + g (101 + sp_plcF g b)
  | 6 => sp_vLand g (sp_plcF g a)
  | 7 => sp_nLoad g a
  | 8 => sp_cnt g a (g 4).toNat
  | 9 => (sp_pass g a.toNat).2
  | _ => g 2 - 1
/-- the reference's number for the exception -/
def sp_oz (κ : Nat) (e : Int) : Int := match κ with
  | 0 => -1 - e
  | 1 => -e
  | 2 => -e
  | 3 => -e
  | 4 => if e = -1 then 1 else if e = -3 then 2 else 3
  | 5 => if e = -1 then 1 else if e = -5 then 2 else if e = -3 then 3 else 4
  | 6 => if e = -5 then 1 else if e = -3 then 2 else 3
  | 7 => if e = -1 then 1 else 2
  | 8 => if e = -1 then 1 else 2
  | 9 => 1
  | _ => if e = -1 then 1 else 2
theorem op_cases (κ : Nat) : κ = 0 ∨ κ = 1 ∨ κ = 2 ∨ κ = 3 ∨ κ = 4 ∨ κ = 5 ∨ κ = 6 ∨ κ = 7 ∨ κ = 8 ∨ κ = 9 ∨ ∃ m, κ = m + 10 := by
  by_cases h : 10 ≤ κ
  · exact Or.inr (Or.inr (Or.inr (Or.inr (Or.inr (Or.inr (Or.inr (Or.inr (Or.inr (Or.inr ⟨κ - 10, by omega⟩)))))))))
  · omega
theorem op_rng {κ : Nat} {a b c d e r : Int} (h : sp_of κ g a b c d e r) : -5 ≤ e ∧ e ≤ -1 ∧ 0 ≤ r ∧ r ≤ 7 := by
  rcases op_cases κ with rfl | rfl | rfl | rfl | rfl | rfl | rfl | rfl | rfl | rfl | ⟨m, rfl⟩
  · have h : r = 0 ∧ sp_fCrater g a e := h
    unfold sp_fCrater at h; omega
  · have h : r = 0 ∧ sp_fChannel g a b c d e := h
    unfold sp_fChannel at h; omega
  · have h : r = 0 ∧ sp_fFerry g a b c e := h
    unfold sp_fFerry at h; omega
  · have h : r = 0 ∧ sp_fMoon g a b c d e := h
    unfold sp_fMoon at h; omega
  · have h : sp_fSail g a b e r := h
    unfold sp_fSail at h; omega
  · have h : sp_fBoard g a b e r := h
    unfold sp_fBoard at h; omega
  · have h : r = 0 ∧ sp_fLand g a e := h
    unfold sp_fLand at h; omega
  · have h : r = 0 ∧ sp_fLoad g a e := h
    unfold sp_fLoad at h; omega
  · have h : r = 0 ∧ sp_fRescue g a e := h
    unfold sp_fRescue at h; omega
  · have h : r = 0 ∧ e = -2 ∧ (a < 1 ∨ 48 < a) := h
    omega
  · have h : r = 0 ∧ sp_fDrop g a e := h
    unfold sp_fDrop at h; omega
theorem op_det {κ : Nat} {a b c d e r e' r' : Int} (h : sp_of κ g a b c d e r) (k : sp_of κ g a b c d e' r') : e = e' ∧ r = r' := by
  rcases op_cases κ with rfl | rfl | rfl | rfl | rfl | rfl | rfl | rfl | rfl | rfl | ⟨m, rfl⟩
  · have h : r = 0 ∧ sp_fCrater g a e := h
    have k : r' = 0 ∧ sp_fCrater g a e' := k
    unfold sp_fCrater at h k; omega
  · have h : r = 0 ∧ sp_fChannel g a b c d e := h
    have k : r' = 0 ∧ sp_fChannel g a b c d e' := k
    unfold sp_fChannel sp_isC sp_arC at h k; omega
  · have h : r = 0 ∧ sp_fFerry g a b c e := h
    have k : r' = 0 ∧ sp_fFerry g a b c e' := k
    unfold sp_fFerry sp_isC sp_arF at h k; omega
  · have h : r = 0 ∧ sp_fMoon g a b c d e := h
    have k : r' = 0 ∧ sp_fMoon g a b c d e' := k
    unfold sp_fMoon sp_isC sp_arM at h k; omega
  · have h : sp_fSail g a b e r := h
    have k : sp_fSail g a b e' r' := k
    unfold sp_fSail sp_isF sp_isC at h k; omega
  · have h : sp_fBoard g a b e r := h
    have k : sp_fBoard g a b e' r' := k
    unfold sp_fBoard sp_isF at h k; omega
  · have h : r = 0 ∧ sp_fLand g a e := h
    have k : r' = 0 ∧ sp_fLand g a e' := k
    unfold sp_fLand at h k; omega
  · have h : r = 0 ∧ sp_fLoad g a e := h
    have k : r' = 0 ∧ sp_fLoad g a e' := k
    unfold sp_fLoad sp_isF at h k; omega
  · have h : r = 0 ∧ sp_fRescue g a e := h
    have k : r' = 0 ∧ sp_fRescue g a e' := k
    unfold sp_fRescue sp_isF at h k; omega
  · have h : r = 0 ∧ e = -2 ∧ (a < 1 ∨ 48 < a) := h
    have k : r' = 0 ∧ e' = -2 ∧ (a < 1 ∨ 48 < a) := k
    omega
  · have h : r = 0 ∧ sp_fDrop g a e := h
    have k : r' = 0 ∧ sp_fDrop g a e' := k
    unfold sp_fDrop at h k; omega
theorem op_excl {κ : Nat} {a b c d e r : Int} (h : sp_of κ g a b c d e r) (k : sp_oo κ g a b c d) : False := by
  rcases op_cases κ with rfl | rfl | rfl | rfl | rfl | rfl | rfl | rfl | rfl | rfl | ⟨m, rfl⟩
  · have h : r = 0 ∧ sp_fCrater g a e := h
    have k : sp_oCrater g a := k
    unfold sp_fCrater at h
    unfold sp_oCrater at k
    omega
  · have h : r = 0 ∧ sp_fChannel g a b c d e := h
    have k : sp_oChannel g a b c d := k
    unfold sp_fChannel sp_isC sp_arC at h
    unfold sp_oChannel sp_isC sp_arC at k
    omega
  · have h : r = 0 ∧ sp_fFerry g a b c e := h
    have k : sp_oFerry g a b c := k
    unfold sp_fFerry sp_isC sp_arF at h
    unfold sp_oFerry sp_isC sp_arF at k
    omega
  · have h : r = 0 ∧ sp_fMoon g a b c d e := h
    have k : sp_oMoon g a b c d := k
    unfold sp_fMoon sp_isC sp_arM at h
    unfold sp_oMoon sp_isC sp_arM at k
    omega
  · have h : sp_fSail g a b e r := h
    have k : sp_oSail g a b := k
    unfold sp_fSail sp_isF sp_isC at h
    unfold sp_oSail sp_isF sp_isC at k
    omega
  · have h : sp_fBoard g a b e r := h
    have k : sp_oBoard g a b := k
    unfold sp_fBoard sp_isF at h
    unfold sp_oBoard sp_isF at k
    omega
  · have h : r = 0 ∧ sp_fLand g a e := h
    have k : sp_oLand g a := k
    unfold sp_fLand at h
    unfold sp_oLand at k
    omega
  · have h : r = 0 ∧ sp_fLoad g a e := h
    have k : sp_oLoad g a := k
    unfold sp_fLoad sp_isF at h
    unfold sp_oLoad sp_isF at k
    omega
  · have h : r = 0 ∧ sp_fRescue g a e := h
    have k : sp_oRescue g a := k
    unfold sp_fRescue sp_isF at h
    unfold sp_oRescue sp_isF at k
    omega
  · have h : r = 0 ∧ e = -2 ∧ (a < 1 ∨ 48 < a) := h
    have k : 1 ≤ a ∧ a ≤ 48 := k
    omega
  · have h : r = 0 ∧ sp_fDrop g a e := h
    have k : sp_oDrop g a := k
    unfold sp_fDrop at h
    unfold sp_oDrop at k
    rcases h.2 with w | w
    · exact w.2 k.1
    · exact k.2 w.2.2
theorem op_z {κ : Nat} {a b c d e r : Int} (h : sp_of κ g a b c d e r) : 1 ≤ sp_oz κ e ∧ sp_oz κ e ≤ 4 := by
  have rg := op_rng h
  rcases op_cases κ with rfl | rfl | rfl | rfl | rfl | rfl | rfl | rfl | rfl | rfl | ⟨m, rfl⟩
  · have h : r = 0 ∧ sp_fCrater g a e := h
    unfold sp_fCrater at h
    show 1 ≤ -1 - e ∧ -1 - e ≤ 4
    omega
  · have h : r = 0 ∧ sp_fChannel g a b c d e := h
    unfold sp_fChannel at h
    show 1 ≤ -e ∧ -e ≤ 4
    omega
  · have h : r = 0 ∧ sp_fFerry g a b c e := h
    unfold sp_fFerry at h
    show 1 ≤ -e ∧ -e ≤ 4
    omega
  · have h : r = 0 ∧ sp_fMoon g a b c d e := h
    unfold sp_fMoon at h
    show 1 ≤ -e ∧ -e ≤ 4
    omega
  · show 1 ≤ (if e = -1 then (1 : Int) else if e = -3 then 2 else 3) ∧ (if e = -1 then (1 : Int) else if e = -3 then 2 else 3) ≤ 4
    omega
  · show 1 ≤ (if e = -1 then (1 : Int) else if e = -5 then 2 else if e = -3 then 3 else 4) ∧ (if e = -1 then (1 : Int) else if e = -5 then 2 else if e = -3 then 3 else 4) ≤ 4
    omega
  · show 1 ≤ (if e = -5 then (1 : Int) else if e = -3 then 2 else 3) ∧ (if e = -5 then (1 : Int) else if e = -3 then 2 else 3) ≤ 4
    omega
  · show 1 ≤ (if e = -1 then (1 : Int) else 2) ∧ (if e = -1 then (1 : Int) else 2) ≤ 4
    omega
  · show 1 ≤ (if e = -1 then (1 : Int) else 2) ∧ (if e = -1 then (1 : Int) else 2) ≤ 4
    omega
  · exact ⟨Int.le_refl _, (by decide : (1 : Int) ≤ 4)⟩
  · show 1 ≤ (if e = -1 then (1 : Int) else 2) ∧ (if e = -1 then (1 : Int) else 2) ≤ 4
    omega
theorem fut_to {g g' : Int → Int} (h : sp_fut g) (e3 : g' 3 = g 3) (e0 : g' 0 = g 0) (h3 : g 3 ≤ 3) (e : ∀ s, 62 ≤ s → s < 65 → g' s = g s) : sp_fut g' := fun f a b => by
  rw [e3] at b
  rw [e0, e (62 + f) (by omega) (by omega)]
  exact h f a b
theorem op_inv {κ : Nat} {a b c d : Int} (hI : Inv g B) (hF : sp_fut g) (hB : B + 200 ≤ 4000000) (h : sp_oo κ g a b c d) : Inv (sp_og κ g a b c d) (B + 200) ∧ sp_fut (sp_og κ g a b c d) ∧ 0 ≤ sp_ov κ g a b := by
  have k0 := hI.bd
  have kh := hI.ho
  have kc := hI.cr
  have k2 := hI.ch
  have k3 := hI.fe
  have k4 := hI.mo
  have k5 := hI.nx
  rcases op_cases κ with rfl | rfl | rfl | rfl | rfl | rfl | rfl | rfl | rfl | rfl | ⟨m, rfl⟩
  · have h : sp_oCrater g a := h
    refine ⟨(inv_crater hI h).up (by omega) hB, ?_, kc.1⟩
    have e : ∀ s, ¬ s = 10 + g 1 → ¬ s = 1 → sp_gCrater g a s = g s := fun s x y => (sp_set_ne y).trans (sp_set_ne x)
    exact fut_to hF (e 3 (by omega) (by omega)) (e 0 (by omega) (by omega)) k3.2 (fun s x y => e s (by omega) (by omega))
  · have h : sp_oChannel g a b c d := h
    have h2 : g 2 < 10 := h.2.2.1
    refine ⟨(inv_channel hI h).up (by omega) hB, ?_, k2.1⟩
    have e : ∀ s, (s < 2 ∨ (2 < s ∧ s < 16) ∨ 56 ≤ s) → sp_gChannel g a b c d s = g s := fun s x => (sp_set_ne (by omega)).trans ((sp_set_ne (by omega)).trans ((sp_set_ne (by omega)).trans ((sp_set_ne (by omega)).trans (sp_set_ne (by omega)))))
    exact fut_to hF (e 3 (by omega)) (e 0 (by omega)) k3.2 (fun s x y => e s (by omega))
  · have h : sp_oFerry g a b c := h
    refine ⟨(inv_ferry hI h).up (by omega) hB, ?_, k3.1⟩
    have hz := hI.zer
    unfold sp_oFerry at h
    have e : ∀ s, ¬ s = 3 → ¬ s = 56 + g 3 → ¬ s = 65 + g 3 → ¬ s = 68 + g 3 → sp_gFerry g a b c s = g s := fun s x y z w => (sp_set_ne x).trans ((sp_set_ne w).trans ((sp_set_ne z).trans (sp_set_ne y)))
    have e3 : sp_gFerry g a b c 3 = g 3 + 1 := sp_set_eq
    intro f x y
    have y : f < sp_gFerry g a b c 3 := y
    rw [e3] at y
    show sp_gFerry g a b c (62 + f) = 0 ∨ sp_gFerry g a b c 0 < sp_gFerry g a b c (62 + f)
    rw [e (62 + f) (by omega) (by omega) (by omega) (by omega), e 0 (by omega) (by omega) (by omega) (by omega)]
    by_cases w : f = g 3
    · exact Or.inl (hz f (by omega) (by omega))
    · exact hF f x (by omega)
  · have h : sp_oMoon g a b c d := h
    refine ⟨(inv_moon hI (by omega) h).up (by omega) hB, ?_, k5.1⟩
    have e : ∀ s, (s < 4 ∨ (5 < s ∧ s < 71)) → sp_gMoon g a b c d s = g s := fun s x => (sp_set_ne (by omega)).trans ((sp_set_ne (by omega)).trans ((sp_set_ne (by omega)).trans ((sp_set_ne (by omega)).trans ((sp_set_ne (by omega)).trans ((sp_set_ne (by omega)).trans ((sp_set_ne (by omega)).trans (sp_set_ne (by omega))))))))
    exact fut_to hF (e 3 (by omega)) (e 0 (by omega)) k3.2 (fun s x y => e s (by omega))
  · have h : sp_oSail g a b := h
    have i := inv_sail hI hF h
    refine ⟨i.1.up (by omega) hB, i.2, ?_⟩
    unfold sp_oSail at h
    have br := sp_btwF_rng g (g (56 + a)) b
    have ci := hI.cha (sp_btwF g (g (56 + a)) b) (by omega) (by omega)
    show 0 ≤ g 0 + g (36 + sp_btwF g (g (56 + a)) b)
    omega
  · have h : sp_oBoard g a b := h
    unfold sp_oBoard sp_isF at h
    have pr := sp_plcF_rng g b
    have mi := hI.moo (sp_plcF g b) (by omega) (by omega)
    have cb := sp_car_bd (f := a) hI
    refine ⟨(inv_board hI h.1 (by omega) h.2.2.1 h.2.2.2.2.2.2.1).up (by omega) hB, ?_, ?_⟩
    · have e : ∀ s, s < 121 → sp_gBoard g a (sp_plcF g b) s = g s := fun s x => sp_set_ne (by omega)
      exact fut_to hF (e 3 (by omega)) (e 0 (by omega)) k3.2 (fun s x y => e s (by omega))
    · show 0 ≤ sp_car g a + g (101 + sp_plcF g b)
      omega
  · have h : sp_oLand g a := h
    have i := inv_land hI hF (by omega) h
    refine ⟨i.1.up (by omega) hB, i.2, ?_⟩
    unfold sp_oLand at h
    have pr := sp_plcF_rng g a
    have fb := sp_fare_bd hI (p := sp_plcF g a) (by omega)
    show 0 ≤ sp_vLand g (sp_plcF g a)
    unfold sp_vLand
    split <;> omega
  · have h : sp_oLoad g a := h
    refine ⟨(inv_load hI h.1).up (by omega) hB, fut_load k4.2 k3.2 hF, ?_⟩
    exact (sp_sum_bd (f := fun p => sp_b ((sp_best g a).2 p)) (b := 1) (n := (g 4).toNat) (fun q _ _ => sp_b_rng _)).1
  · have h : sp_oRescue g a := h
    refine ⟨(inv_rescue hI (by omega) h.1).up (by omega) hB, ?_, (sp_cnt_rng _).1⟩
    have e : ∀ s, ¬ s = 7 → s < 121 → sp_gRescue g a s = g s := fun s x y => by
      unfold sp_gRescue
      rw [if_neg x, if_neg (by omega)]
    exact fut_to hF (e 3 (by omega) (by omega)) (e 0 (by omega) (by omega)) k3.2 (fun s x y => e s (by omega) (by omega))
  · have h : 1 ≤ a ∧ a ≤ 48 := h
    have i := inv_pass hI hF (n := a.toNat) (by omega)
    exact ⟨i.1.up (by omega) hB, i.2.1, i.2.2.1⟩
  · have h : sp_oDrop g a := h
    refine ⟨(inv_drop hI h).up (by omega) hB, ?_, ?_⟩
    · have e : ∀ s, ¬ s = 2 → (s < 16 ∨ 56 ≤ s) → sp_gDrop g a s = g s := fun s x y => by
        show sp_set (sp_drp g 16 4 a) 2 (g 2 - 1) s = g s
        rw [sp_set_ne x, sp_drp_out (by omega)]
      exact fut_to hF (e 3 (by omega) (by omega)) (e 0 (by omega) (by omega)) k3.2 (fun s x y => e s (by omega) (by omega))
    · show 0 ≤ g 2 - 1
      unfold sp_oDrop at h
      omega
end

