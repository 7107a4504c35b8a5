/-! one answer -/
theorem og_stp5 {g : Int → Int} {f : Int} (hf : 0 ≤ f) : sp_stp g f 5 = g 5 := by
  unfold sp_stp sp_arr
  rw [sp_set_ne (by decide)]
  unfold sp_not
  rw [if_neg (by decide), if_neg (by decide), sp_set_ne (by omega)]
theorem og_hr5 {g : Int → Int} : ∀ n : Nat, (sp_hr g n).1 5 = g 5
  | 0 => rfl
  | n + 1 => by
    have ih := og_hr5 (g := g) n
    unfold sp_hr
    split
    · exact (og_stp5 (by omega)).trans ih
    · exact ih
theorem og_pass5 {g : Int → Int} : ∀ n : Nat, (sp_pass g n).1 5 = g 5
  | 0 => rfl
  | n + 1 => by
    have ih := og_pass5 (g := g) n
    show (sp_hour (sp_pass g n).1).1 5 = g 5
    unfold sp_hour
    rw [og_hr5, sp_h0_s (by decide) (by omega), ih]
/-- how many moons there have been -/
theorem og_5 {κ : Nat} {g : Int → Int} {a b c d B : Int} (hI : Inv g B) (h : sp_oo κ g a b c d) : sp_og κ g a b c d 5 = if κ = 3 then g 5 + 1 else g 5 := by
  have kc := hI.cr
  have k2 := hI.ch
  have k3 := hI.fe
  have k4 := hI.mo
  rcases op_cases κ with rfl | rfl | rfl | rfl | rfl | rfl | rfl | rfl | rfl | rfl | ⟨m, rfl⟩
  · rw [if_neg (by decide)]
    show sp_gCrater g a 5 = g 5
    unfold sp_gCrater
    rw [sp_set_ne (by omega), sp_set_ne (by omega)]
  · rw [if_neg (by decide)]
    show sp_gChannel g a b c d 5 = g 5
    unfold sp_gChannel
    rw [sp_set_ne (by omega), sp_set_ne (by omega), sp_set_ne (by omega), sp_set_ne (by omega), sp_set_ne (by omega)]
  · rw [if_neg (by decide)]
    show sp_gFerry g a b c 5 = g 5
    unfold sp_gFerry
    rw [sp_set_ne (by omega), sp_set_ne (by omega), sp_set_ne (by omega), sp_set_ne (by omega)]
  · rw [if_pos rfl]
    show sp_gMoon g a b c d 5 = g 5 + 1
    unfold sp_gMoon
    exact sp_set_eq
  · have h : sp_oSail g a b := h
    unfold sp_oSail sp_isF at h
    rw [if_neg (by decide)]
    show sp_gSail g a b _ 5 = g 5
    unfold sp_gSail
    rw [sp_set_ne (by omega), sp_set_ne (by omega), sp_set_ne (by omega)]
  · have pr := sp_plcF_rng g b
    rw [if_neg (by decide)]
    show sp_gBoard g a _ 5 = g 5
    unfold sp_gBoard
    rw [sp_set_ne (by omega)]
  · have pr := sp_plcF_rng g a
    rw [if_neg (by decide)]
    show sp_gLand g (sp_plcF g a) 5 = g 5
    unfold sp_gLand
    split
    · unfold sp_gGone
      rw [sp_set_ne (by decide), sp_drp_out (by omega)]
      unfold sp_gPaid sp_gAsh
      rw [sp_set_ne (by decide), sp_set_ne (by omega)]
    · unfold sp_gAsh
      exact sp_set_ne (by omega)
  · rw [if_neg (by decide)]
    show sp_gLoad g a 5 = g 5
    unfold sp_gLoad
    refine if_neg (fun q => ?_)
    have := q.1
    omega
  · rw [if_neg (by decide)]
    show sp_gRescue g a 5 = g 5
    unfold sp_gRescue
    rw [if_neg (by decide), if_neg (by omega)]
  · rw [if_neg (by decide)]
    exact og_pass5 a.toNat
  · rw [if_neg (by omega)]
    show sp_set (sp_drp g 16 4 a) 2 (g 2 - 1) 5 = g 5
    rw [sp_set_ne (by decide), sp_drp_out (by omega)]
theorem la_off {sc : Nat × (Nat → Int32)} {cd : mw_CD} {as : List Int32} {w w' : of_S} {v : Int32} {δ : Int} {D c s : Nat} (h : ¬ Inv w.1.1 4000000) : la sc cd as w v w' δ D c s := by
  intro b sb M B Qr Qx hO hB K
  have i := hO.inv.1
  exact absurd (i.up i.bd.2 (Int.le_refl _)) h
section
variable {sc : Nat × (Nat → Int32)}
theorem x_act0 (w : of_S) (a b9 c9 : Int32) : ∃ v w', la sc d_L_act [0, a, b9, c9] w v w' 200 22 4 24 ∧ w'.2.2 = w.2.2 ∧ w'.1.1 5 ≤ w.1.1 5 + 0 := by
  by_cases hI : Inv w.1.1 4000000
  case neg => exact ⟨0, w, la_off hI, rfl, by omega⟩
  by_cases h : sp_oo 0 w.1.1 a.toInt 0 0 0
  · exact ⟨_, _, a_act0 a b9 c9 (r := .inr _) (of_addCrater.1 h) (fun e he => by cases he), rfl, by
      have q5 := og_5 hI h
      show sp_og 0 w.1.1 a.toInt 0 0 0 5 ≤ _
      rw [q5]
      split <;> omega⟩
  by_cases h2 : ∃ e r, sp_of 0 w.1.1 a.toInt 0 0 0 e r
  · obtain ⟨e, r, h2⟩ := h2
    have rg := op_rng h2
    exact ⟨_, _, a_act0 a b9 c9 (r := .inl (-1 - e).toNat) (of_addCrater.2.1 e r h2) (fun e' he => by cases he; omega), rfl, by
        show w.1.1 5 ≤ _
        omega⟩
  · exact ⟨_, w, a_act0 a b9 c9 (r := .inr 0) (of_addCrater.2.2 h (fun e r z => h2 ⟨e, r, z⟩) _ w) (fun e he => by cases he), rfl, by omega⟩
theorem x_act1 (w : of_S) (a b9 c9 : Int32) : ∃ v w', la sc d_L_act [1, a, b9, c9] w v w' 200 22 4 24 ∧ w'.2.2 = w.2.2 ∧ w'.1.1 5 ≤ w.1.1 5 + 0 := by
  by_cases hI : Inv w.1.1 4000000
  case neg => exact ⟨0, w, la_off hI, rfl, by omega⟩
  by_cases h : sp_oo 2 w.1.1 a.toInt b9.toInt c9.toInt 0
  · exact ⟨_, _, a_act1 a b9 c9 (r := .inr _) (of_addFerry.1 h) (fun e he => by cases he), rfl, by
      have q5 := og_5 hI h
      show sp_og 2 w.1.1 a.toInt b9.toInt c9.toInt 0 5 ≤ _
      rw [q5]
      split <;> omega⟩
  by_cases h2 : ∃ e r, sp_of 2 w.1.1 a.toInt b9.toInt c9.toInt 0 e r
  · obtain ⟨e, r, h2⟩ := h2
    have rg := op_rng h2
    exact ⟨_, _, a_act1 a b9 c9 (r := .inl (-1 - e).toNat) (of_addFerry.2.1 e r h2) (fun e' he => by cases he; omega), rfl, by
        show w.1.1 5 ≤ _
        omega⟩
  · exact ⟨_, w, a_act1 a b9 c9 (r := .inr 0) (of_addFerry.2.2 h (fun e r z => h2 ⟨e, r, z⟩) _ w) (fun e he => by cases he), rfl, by omega⟩
theorem x_act2 (w : of_S) (a b9 c9 : Int32) : ∃ v w', la sc d_L_act [2, a, b9, c9] w v w' 200 22 4 24 ∧ w'.2.2 = w.2.2 ∧ w'.1.1 5 ≤ w.1.1 5 + 0 := by
  by_cases hI : Inv w.1.1 4000000
  case neg => exact ⟨0, w, la_off hI, rfl, by omega⟩
  by_cases h : sp_oo 4 w.1.1 a.toInt b9.toInt 0 0
  · exact ⟨_, _, a_act2 a b9 c9 (r := .inr _) (of_sail.1 h) (fun e he => by cases he), rfl, by
      have q5 := og_5 hI h
      show sp_og 4 w.1.1 a.toInt b9.toInt 0 0 5 ≤ _
      rw [q5]
      split <;> omega⟩
  by_cases h2 : ∃ e r, sp_of 4 w.1.1 a.toInt b9.toInt 0 0 e r
  · obtain ⟨e, r, h2⟩ := h2
    have rg := op_rng h2
    exact ⟨_, _, a_act2 a b9 c9 (r := .inl (-1 - e).toNat) (of_sail.2.1 e r h2) (fun e' he => by cases he; omega), rfl, by
        show w.1.1 5 ≤ _
        omega⟩
  · exact ⟨_, w, a_act2 a b9 c9 (r := .inr 0) (of_sail.2.2 h (fun e r z => h2 ⟨e, r, z⟩) _ w) (fun e he => by cases he), rfl, by omega⟩
theorem x_act3 (w : of_S) (a b9 c9 : Int32) : ∃ v w', la sc d_L_act [3, a, b9, c9] w v w' 200 22 4 24 ∧ w'.2.2 = w.2.2 ∧ w'.1.1 5 ≤ w.1.1 5 + 0 := by
  by_cases hI : Inv w.1.1 4000000
  case neg => exact ⟨0, w, la_off hI, rfl, by omega⟩
  by_cases h : sp_oo 5 w.1.1 a.toInt b9.toInt 0 0
  · exact ⟨_, _, a_act3 a b9 c9 (r := .inr _) (of_board.1 h) (fun e he => by cases he), rfl, by
      have q5 := og_5 hI h
      show sp_og 5 w.1.1 a.toInt b9.toInt 0 0 5 ≤ _
      rw [q5]
      split <;> omega⟩
  by_cases h2 : ∃ e r, sp_of 5 w.1.1 a.toInt b9.toInt 0 0 e r
  · obtain ⟨e, r, h2⟩ := h2
    have rg := op_rng h2
    exact ⟨_, _, a_act3 a b9 c9 (r := .inl (-1 - e).toNat) (of_board.2.1 e r h2) (fun e' he => by cases he; omega), rfl, by
        show w.1.1 5 ≤ _
        omega⟩
  · exact ⟨_, w, a_act3 a b9 c9 (r := .inr 0) (of_board.2.2 h (fun e r z => h2 ⟨e, r, z⟩) _ w) (fun e he => by cases he), rfl, by omega⟩
theorem x_act4 (w : of_S) (a b9 c9 : Int32) : ∃ v w', la sc d_L_act [4, a, b9, c9] w v w' 200 22 4 24 ∧ w'.2.2 = w.2.2 ∧ w'.1.1 5 ≤ w.1.1 5 + 0 := by
  by_cases hI : Inv w.1.1 4000000
  case neg => exact ⟨0, w, la_off hI, rfl, by omega⟩
  by_cases h : sp_oo 6 w.1.1 a.toInt 0 0 0
  · exact ⟨_, _, a_act4 a b9 c9 (r := .inr _) (of_land.1 h) (fun e he => by cases he), rfl, by
      have q5 := og_5 hI h
      show sp_og 6 w.1.1 a.toInt 0 0 0 5 ≤ _
      rw [q5]
      split <;> omega⟩
  by_cases h2 : ∃ e r, sp_of 6 w.1.1 a.toInt 0 0 0 e r
  · obtain ⟨e, r, h2⟩ := h2
    have rg := op_rng h2
    exact ⟨_, _, a_act4 a b9 c9 (r := .inl (-1 - e).toNat) (of_land.2.1 e r h2) (fun e' he => by cases he; omega), rfl, by
        show w.1.1 5 ≤ _
        omega⟩
  · exact ⟨_, w, a_act4 a b9 c9 (r := .inr 0) (of_land.2.2 h (fun e r z => h2 ⟨e, r, z⟩) _ w) (fun e he => by cases he), rfl, by omega⟩
theorem x_act5 (w : of_S) (a b9 c9 : Int32) : ∃ v w', la sc d_L_act [5, a, b9, c9] w v w' 200 22 4 24 ∧ w'.2.2 = w.2.2 ∧ w'.1.1 5 ≤ w.1.1 5 + 0 := by
  by_cases hI : Inv w.1.1 4000000
  case neg => exact ⟨0, w, la_off hI, rfl, by omega⟩
  by_cases h : sp_oo 7 w.1.1 a.toInt 0 0 0
  · exact ⟨_, _, a_act5 a b9 c9 (r := .inr _) (of_loadBest.1 h) (fun e he => by cases he), rfl, by
      have q5 := og_5 hI h
      show sp_og 7 w.1.1 a.toInt 0 0 0 5 ≤ _
      rw [q5]
      split <;> omega⟩
  by_cases h2 : ∃ e r, sp_of 7 w.1.1 a.toInt 0 0 0 e r
  · obtain ⟨e, r, h2⟩ := h2
    have rg := op_rng h2
    exact ⟨_, _, a_act5 a b9 c9 (r := .inl (-1 - e).toNat) (of_loadBest.2.1 e r h2) (fun e' he => by cases he; omega), rfl, by
        show w.1.1 5 ≤ _
        omega⟩
  · exact ⟨_, w, a_act5 a b9 c9 (r := .inr 0) (of_loadBest.2.2 h (fun e r z => h2 ⟨e, r, z⟩) _ w) (fun e he => by cases he), rfl, by omega⟩
theorem x_act6 (w : of_S) (a b9 c9 : Int32) : ∃ v w', la sc d_L_act [6, a, b9, c9] w v w' 200 22 4 24 ∧ w'.2.2 = w.2.2 ∧ w'.1.1 5 ≤ w.1.1 5 + 0 := by
  by_cases hI : Inv w.1.1 4000000
  case neg => exact ⟨0, w, la_off hI, rfl, by omega⟩
  by_cases h : sp_oo 8 w.1.1 a.toInt 0 0 0
  · exact ⟨_, _, a_act6 a b9 c9 (r := .inr _) (of_rescue.1 h) (fun e he => by cases he), rfl, by
      have q5 := og_5 hI h
      show sp_og 8 w.1.1 a.toInt 0 0 0 5 ≤ _
      rw [q5]
      split <;> omega⟩
  by_cases h2 : ∃ e r, sp_of 8 w.1.1 a.toInt 0 0 0 e r
  · obtain ⟨e, r, h2⟩ := h2
    have rg := op_rng h2
    exact ⟨_, _, a_act6 a b9 c9 (r := .inl (-1 - e).toNat) (of_rescue.2.1 e r h2) (fun e' he => by cases he; omega), rfl, by
        show w.1.1 5 ≤ _
        omega⟩
  · exact ⟨_, w, a_act6 a b9 c9 (r := .inr 0) (of_rescue.2.2 h (fun e r z => h2 ⟨e, r, z⟩) _ w) (fun e he => by cases he), rfl, by omega⟩
theorem x_act7 (w : of_S) (a b9 c9 : Int32) : ∃ v w', la sc d_L_act [7, a, b9, c9] w v w' 200 22 4 24 ∧ w'.2.2 = w.2.2 ∧ w'.1.1 5 ≤ w.1.1 5 + 0 := by
  by_cases hI : Inv w.1.1 4000000
  case neg => exact ⟨0, w, la_off hI, rfl, by omega⟩
  by_cases h : sp_oo 9 w.1.1 a.toInt 0 0 0
  · exact ⟨_, _, a_act7 a b9 c9 (r := .inr _) (of_pass.1 h) (fun e he => by cases he), rfl, by
      have q5 := og_5 hI h
      show sp_og 9 w.1.1 a.toInt 0 0 0 5 ≤ _
      rw [q5]
      split <;> omega⟩
  by_cases h2 : ∃ e r, sp_of 9 w.1.1 a.toInt 0 0 0 e r
  · obtain ⟨e, r, h2⟩ := h2
    have rg := op_rng h2
    exact ⟨_, _, a_act7 a b9 c9 (r := .inl (-1 - e).toNat) (of_pass.2.1 e r h2) (fun e' he => by cases he; omega), rfl, by
        show w.1.1 5 ≤ _
        omega⟩
  · exact ⟨_, w, a_act7 a b9 c9 (r := .inr 0) (of_pass.2.2 h (fun e r z => h2 ⟨e, r, z⟩) _ w) (fun e he => by cases he), rfl, by omega⟩
theorem x_act8 (w : of_S) (a b9 c9 : Int32) : ∃ v w', la sc d_L_act [8, a, b9, c9] w v w' 200 22 4 24 ∧ w'.2.2 = w.2.2 ∧ w'.1.1 5 ≤ w.1.1 5 + 0 := by
  by_cases hI : Inv w.1.1 4000000
  case neg => exact ⟨0, w, la_off hI, rfl, by omega⟩
  by_cases h : sp_oo 10 w.1.1 a.toInt 0 0 0
  · exact ⟨_, _, a_act8 a b9 c9 (r := .inr _) (of_removeChannel.1 h) (fun e he => by cases he), rfl, by
      have q5 := og_5 hI h
      show sp_og 10 w.1.1 a.toInt 0 0 0 5 ≤ _
      rw [q5]
      split <;> omega⟩
  by_cases h2 : ∃ e r, sp_of 10 w.1.1 a.toInt 0 0 0 e r
  · obtain ⟨e, r, h2⟩ := h2
    have rg := op_rng h2
    exact ⟨_, _, a_act8 a b9 c9 (r := .inl (-1 - e).toNat) (of_removeChannel.2.1 e r h2) (fun e' he => by cases he; omega), rfl, by
        show w.1.1 5 ≤ _
        omega⟩
  · exact ⟨_, w, a_act8 a b9 c9 (r := .inr 0) (of_removeChannel.2.2 h (fun e r z => h2 ⟨e, r, z⟩) _ w) (fun e he => by cases he), rfl, by omega⟩
theorem x_channel (w : of_S) (a b9 c9 d9 : Int32) : ∃ v w', la sc d_L_channel [a, b9, c9, d9] w v w' 200 22 4 24 ∧ w'.2.2 = w.2.2 ∧ w'.1.1 5 ≤ w.1.1 5 + 0 := by
  by_cases hI : Inv w.1.1 4000000
  case neg => exact ⟨0, w, la_off hI, rfl, by omega⟩
  by_cases h : sp_oo 1 w.1.1 a.toInt b9.toInt c9.toInt d9.toInt
  · exact ⟨_, _, a_channel a b9 c9 d9 (r := .inr _) (of_addChannel.1 h) (fun e he => by cases he), rfl, by
      have q5 := og_5 hI h
      show sp_og 1 w.1.1 a.toInt b9.toInt c9.toInt d9.toInt 5 ≤ _
      rw [q5]
      split <;> omega⟩
  by_cases h2 : ∃ e r, sp_of 1 w.1.1 a.toInt b9.toInt c9.toInt d9.toInt e r
  · obtain ⟨e, r, h2⟩ := h2
    have rg := op_rng h2
    have h3 : r = 0 ∧ sp_fChannel w.1.1 a.toInt b9.toInt c9.toInt d9.toInt e := h2
    unfold sp_fChannel at h3
    exact ⟨_, _, a_channel a b9 c9 d9 (r := .inl (-1 - e).toNat) (of_addChannel.2.1 e r h2) (fun e' he => by cases he; omega), rfl, by
        show w.1.1 5 ≤ _
        omega⟩
  · exact ⟨_, w, a_channel a b9 c9 d9 (r := .inr 0) (of_addChannel.2.2 h (fun e r z => h2 ⟨e, r, z⟩) _ w) (fun e he => by cases he), rfl, by omega⟩
theorem x_moon (w : of_S) (a b9 c9 d9 : Int32) : ∃ v w', la sc d_L_moon [a, b9, c9, d9] w v w' 200 22 4 24 ∧ w'.2.2 = w.2.2 ∧ w'.1.1 5 ≤ w.1.1 5 + 1 := by
  by_cases hI : Inv w.1.1 4000000
  case neg => exact ⟨0, w, la_off hI, rfl, by omega⟩
  by_cases h : sp_oo 3 w.1.1 a.toInt b9.toInt c9.toInt d9.toInt
  · exact ⟨_, _, a_moon a b9 c9 d9 (r := .inr _) (of_addMoon.1 h) (fun e he => by cases he), rfl, by
      have q5 := og_5 hI h
      show sp_og 3 w.1.1 a.toInt b9.toInt c9.toInt d9.toInt 5 ≤ _
      rw [q5]
      split <;> omega⟩
  by_cases h2 : ∃ e r, sp_of 3 w.1.1 a.toInt b9.toInt c9.toInt d9.toInt e r
  · obtain ⟨e, r, h2⟩ := h2
    have rg := op_rng h2
    have h3 : r = 0 ∧ sp_fMoon w.1.1 a.toInt b9.toInt c9.toInt d9.toInt e := h2
    unfold sp_fMoon at h3
    exact ⟨_, _, a_moon a b9 c9 d9 (r := .inl (-1 - e).toNat) (of_addMoon.2.1 e r h2) (fun e' he => by cases he; omega), rfl, by
        show w.1.1 5 ≤ _
        omega⟩
  · exact ⟨_, w, a_moon a b9 c9 d9 (r := .inr 0) (of_addMoon.2.2 h (fun e r z => h2 ⟨e, r, z⟩) _ w) (fun e he => by cases he), rfl, by omega⟩
/-- an office with this state -/
def of_g0 (g : Int → Int) : of_S := ((g, 0, fun _ => g, 0, g), (0, 0, 0), (0, g), (0, g))
theorem x_act9 (g : Int → Int) (a b9 c9 : Int32) : ∃ v, ∀ w : of_S, w.1.1 = g → la sc d_L_act [9, a, b9, c9] w v w 0 22 4 24 := by
  obtain ⟨r, hr, hs⟩ := of_ex2 (s := q_wayHours_s (of_g0 g) a.toInt b9.toInt) 5 (by
    intro k v h
    unfold q_wayHours_s at h
    omega
  ) (fun k v k' v' h h' => q_wayHours_u h h')
  refine ⟨of_a r, fun w hw => a_act9 a b9 c9 (q_wayHours (fun k v h => hs k v ?_)) hr⟩
  unfold q_wayHours_s at h ⊢
  rw [hw] at h
  exact h
theorem x_act11 (g : Int → Int) (a b9 c9 : Int32) : ∃ v, ∀ w : of_S, w.1.1 = g → la sc d_L_act [11, a, b9, c9] w v w 0 22 4 24 := by
  obtain ⟨r, hr, hs⟩ := of_ex2 (s := q_earliestArrival_s (of_g0 g) a.toInt b9.toInt) 5 (by
    intro k v h
    rcases h with ⟨k1, _⟩ | ⟨k5, _⟩ | ⟨k0, _⟩ <;> omega
  ) (fun k v k' v' h h' => q_earliestArrival_u h h')
  refine ⟨of_a r, fun w hw => a_act11 a b9 c9 (q_earliestArrival (fun k v h => hs k v ?_)) hr⟩
  unfold q_earliestArrival_s at h ⊢
  rw [hw] at h
  exact h
theorem x_act17 (g : Int → Int) (a b9 c9 : Int32) : ∃ v, ∀ w : of_S, w.1.1 = g → la sc d_L_act [17, a, b9, c9] w v w 0 22 4 24 := by
  obtain ⟨r, hr, hs⟩ := of_ex2 (s := q_channelBetween_s (of_g0 g) a.toInt b9.toInt) 5 (by
    intro k v h
    unfold q_channelBetween_s at h
    omega
  ) (fun k v k' v' h h' => q_channelBetween_u h h')
  refine ⟨of_a r, fun w hw => a_act17 a b9 c9 (q_channelBetween (fun k v h => hs k v ?_)) hr⟩
  unfold q_channelBetween_s at h ⊢
  rw [hw] at h
  exact h
theorem x_act18 (g : Int → Int) (a b9 c9 : Int32) : ∃ v, ∀ w : of_S, w.1.1 = g → la sc d_L_act [18, a, b9, c9] w v w 0 22 4 24 := by
  obtain ⟨r, hr, hs⟩ := of_ex2 (s := q_shoreOf_s (of_g0 g) a.toInt) 5 (by
    intro k v h
    unfold q_shoreOf_s at h
    omega
  ) (fun k v k' v' h h' => q_shoreOf_u h h')
  refine ⟨of_a r, fun w hw => a_act18 a b9 c9 (q_shoreOf (fun k v h => hs k v ?_)) hr⟩
  unfold q_shoreOf_s at h ⊢
  rw [hw] at h
  exact h
theorem x_act19 (g : Int → Int) (a b9 c9 : Int32) : ∃ v, ∀ w : of_S, w.1.1 = g → la sc d_L_act [19, a, b9, c9] w v w 0 22 4 24 := by
  obtain ⟨r, hr, hs⟩ := of_ex2 (s := q_ferryOf_s (of_g0 g) a.toInt) 5 (by
    intro k v h
    unfold q_ferryOf_s at h
    omega
  ) (fun k v k' v' h h' => q_ferryOf_u h h')
  refine ⟨of_a r, fun w hw => a_act19 a b9 c9 (q_ferryOf (fun k v h => hs k v ?_)) hr⟩
  unfold q_ferryOf_s at h ⊢
  rw [hw] at h
  exact h
theorem x_act20 (g : Int → Int) (a b9 c9 : Int32) : ∃ v, ∀ w : of_S, w.1.1 = g → la sc d_L_act [20, a, b9, c9] w v w 0 22 4 24 := by
  obtain ⟨r, hr, hs⟩ := of_ex2 (s := q_targetOf_s (of_g0 g) a.toInt) 5 (by
    intro k v h
    unfold q_targetOf_s at h
    omega
  ) (fun k v k' v' h h' => q_targetOf_u h h')
  refine ⟨of_a r, fun w hw => a_act20 a b9 c9 (q_targetOf (fun k v h => hs k v ?_)) hr⟩
  unfold q_targetOf_s at h ⊢
  rw [hw] at h
  exact h
theorem x_act21 (g : Int → Int) (a b9 c9 : Int32) : ∃ v, ∀ w : of_S, w.1.1 = g → la sc d_L_act [21, a, b9, c9] w v w 0 22 4 24 := by
  obtain ⟨r, hr, hs⟩ := of_ex2 (s := q_craterOf_s (of_g0 g) a.toInt) 5 (by
    intro k v h
    unfold q_craterOf_s at h
    omega
  ) (fun k v k' v' h h' => q_craterOf_u h h')
  refine ⟨of_a r, fun w hw => a_act21 a b9 c9 (q_craterOf (fun k v h => hs k v ?_)) hr⟩
  unfold q_craterOf_s at h ⊢
  rw [hw] at h
  exact h
end
