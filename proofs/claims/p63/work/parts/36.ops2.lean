/-! the invariant under changes of ferries and moons -/
section
theorem inv_ferry {g : Int → Int} {B k d w : Int} (h : Inv g B) (ho : sp_oFerry g k d w) : Inv (sp_gFerry g k d w) B := by
  obtain ⟨⟨ha, ha2⟩, ⟨h1, h2, h3, h4⟩, h6⟩ := ho
  have k3 := h.fe
  have kc := h.cr
  have kch := h.ch
  have km := h.mo
  have e : ∀ t, ¬ t = 3 → ¬ t = 56 + g 3 → ¬ t = 65 + g 3 → ¬ t = 68 + g 3 → sp_gFerry g k d w t = g t := fun t a b c d => by
    unfold sp_gFerry
    rw [sp_set_ne a, sp_set_ne d, sp_set_ne c, sp_set_ne b]
  have e3 : sp_gFerry g k d w 3 = g 3 + 1 := sp_set_eq
  have en : sp_gFerry g k d w (56 + g 3) = k ∧ sp_gFerry g k d w (65 + g 3) = d ∧ sp_gFerry g k d w (68 + g 3) = w := by
    unfold sp_gFerry
    refine ⟨?_, ?_, ?_⟩
    · rw [sp_set_ne (by omega), sp_set_ne (by omega), sp_set_ne (by omega), sp_set_eq]
    · rw [sp_set_ne (by omega), sp_set_ne (by omega), sp_set_eq]
    · rw [sp_set_ne (by omega), sp_set_eq]
  have ee : ∀ t, t < 56 ∨ 71 ≤ t → ¬ t = 3 → sp_gFerry g k d w t = g t := fun t x y => e t y (by omega) (by omega) (by omega)
  have e0 := ee 0 (by omega) (by omega)
  have e1 := ee 1 (by omega) (by omega)
  have e2 := ee 2 (by omega) (by omega)
  have e4 := ee 4 (by omega) (by omega)
  have e5 := ee 5 (by omega) (by omega)
  refine ⟨h.bd, by rw [e0]; exact h.ho, by rw [e1]; exact h.cr, by rw [e2]; exact h.ch, by rw [e3]; omega, by rw [e4]; exact h.mo, by rw [e5]; exact h.nx, by rw [ee 6 (by omega) (by omega)]; exact h.fa, by rw [ee 7 (by omega) (by omega)]; exact h.re, by rw [ee 8 (by omega) (by omega)]; exact h.pa, by rw [ee 9 (by omega) (by omega)]; exact h.sn, h.dep_to e1 (fun s a b => ee s (by omega) (by omega)), h.cha_to e1 e2 (fun s a b => ee s (by omega) (by omega)), h.uni_to e2 (fun s a b => ee s (by omega) (by omega)), fun f a b => ?_, h.moo_to (by omega) (by omega) e4 (by omega) (fun s a b => ee s (by omega) (by omega)), fun f a b => ?_, fun f a b => ?_⟩
  · rw [e3] at b
    rw [e0, e1]
    by_cases q : f = g 3
    · subst q
      have z := h.zer (g 3) (by omega) (by omega)
      have e62 : sp_gFerry g k d w (62 + g 3) = g (62 + g 3) := e _ (by omega) (by omega) (by omega) (by omega)
      rw [en.1, en.2.1, en.2.2, e62]
      omega
    · have x := h.fer f a (by omega)
      rw [e (56 + f) (by omega) (by omega) (by omega) (by omega), e (65 + f) (by omega) (by omega) (by omega) (by omega), e (68 + f) (by omega) (by omega) (by omega) (by omega), e (62 + f) (by omega) (by omega) (by omega) (by omega), e (59 + f) (by omega) (by omega) (by omega) (by omega)]
      exact x
  · rw [e3] at b
    have cc : sp_car (sp_gFerry g k d w) f = sp_car g f := sp_car_congr km.2 e4 (fun p a b => by
      unfold sp_w
      rw [ee (121 + p) (by omega) (by omega), ee (101 + p) (by omega) (by omega)])
    rw [cc]
    by_cases q : f = g 3
    · subst q
      rw [en.2.2]
      have : sp_car g (g 3) = 0 := sp_sum_0 (fun i a b => by
        have := h.moo i a (by omega)
        unfold sp_w
        rw [if_neg (by omega)])
      omega
    · rw [e (68 + f) (by omega) (by omega) (by omega) (by omega)]
      exact h.car f a (by omega)
  · rw [e3] at a
    rw [e (62 + f) (by omega) (by omega) (by omega) (by omega)]
    exact h.zer f (by omega) b
theorem inv_sail {g : Int → Int} {B f k : Int} (h : Inv g B) (hF : sp_fut g) (ho : sp_oSail g f k) : Inv (sp_gSail g f k (sp_btwF g (g (56 + f)) k)) B ∧ sp_fut (sp_gSail g f k (sp_btwF g (g (56 + f)) k)) := by
  obtain ⟨⟨⟨f0, f1⟩, k0, k1⟩, h1, h2, h3, h4⟩ := ho
  have k3 := h.fe
  have kc := h.cr
  have kch := h.ch
  have km := h.mo
  have kh := h.ho
  have rc : 0 ≤ sp_btwF g (g (56 + f)) k ∧ sp_btwF g (g (56 + f)) k < g 2 := by
    rcases sp_btwF_rng g (g (56 + f)) k with q | q
    · exact absurd q h2
    · exact ⟨q.1, q.2.1⟩
  obtain ⟨c, hc⟩ : ∃ c, sp_btwF g (g (56 + f)) k = c := ⟨_, rfl⟩
  rw [hc] at rc ⊢
  have ch := h.cha c rc.1 rc.2
  have e : ∀ t, ¬ t = 59 + f → ¬ t = 56 + f → ¬ t = 62 + f → sp_gSail g f k c t = g t := fun t a b c => by
    unfold sp_gSail
    rw [sp_set_ne c, sp_set_ne b, sp_set_ne a]
  have en : sp_gSail g f k c (56 + f) = k ∧ sp_gSail g f k c (59 + f) = g (56 + f) ∧ sp_gSail g f k c (62 + f) = g 0 + g (36 + c) := by
    unfold sp_gSail
    refine ⟨?_, ?_, sp_set_eq⟩
    · rw [sp_set_ne (by omega), sp_set_eq]
    · rw [sp_set_ne (by omega), sp_set_ne (by omega), sp_set_eq]
  have ee : ∀ t, t < 56 ∨ 65 ≤ t → sp_gSail g f k c t = g t := fun t x => e t (by omega) (by omega) (by omega)
  have e0 := ee 0 (by omega)
  have e1 := ee 1 (by omega)
  have e2 := ee 2 (by omega)
  have e3 := ee 3 (by omega)
  have e4 := ee 4 (by omega)
  have e5 := ee 5 (by omega)
  have kf := h.fer f f0 f1
  refine ⟨⟨h.bd, by rw [e0]; exact h.ho, by rw [e1]; exact h.cr, by rw [e2]; exact h.ch, by rw [e3]; exact h.fe, by rw [e4]; exact h.mo, by rw [e5]; exact h.nx, by rw [ee 6 (by omega)]; exact h.fa, by rw [ee 7 (by omega)]; exact h.re, by rw [ee 8 (by omega)]; exact h.pa, by rw [ee 9 (by omega)]; exact h.sn, h.dep_to e1 (fun s a b => ee s (by omega)), h.cha_to e1 e2 (fun s a b => ee s (by omega)), h.uni_to e2 (fun s a b => ee s (by omega)), fun i a b => ?_, h.moo_to (by omega) (by omega) e4 (by omega) (fun s a b => ee s (by omega)), h.car_to e3 e4 (fun s a b => ee s (by omega)), fun i a b => ?_⟩, fun i a b => ?_⟩
  · rw [e3] at b
    have ki := h.fer i a b
    rw [e0, e1, ee (65 + i) (by omega), ee (68 + i) (by omega)]
    by_cases q : i = f
    · subst q
      rw [en.1, en.2.1, en.2.2]
      omega
    · rw [e (56 + i) (by omega) (by omega) (by omega), e (59 + i) (by omega) (by omega) (by omega), e (62 + i) (by omega) (by omega) (by omega)]
      exact ki
  · rw [e3] at a
    rw [e (62 + i) (by omega) (by omega) (by omega)]
    exact h.zer i a b
  · rw [e3] at b
    rw [e0]
    by_cases q : i = f
    · subst q
      rw [en.2.2]
      omega
    · rw [e (62 + i) (by omega) (by omega) (by omega)]
      exact hF i a b
theorem inv_moon {g : Int → Int} {B k d w p : Int} (h : Inv g B) (hB : B + 20 ≤ 4000000) (ho : sp_oMoon g k d w p) : Inv (sp_gMoon g k d w p) (B + 20) := by
  obtain ⟨⟨⟨ha, ha2⟩, hb, hb2⟩, ⟨h1, h2, h3, h4, h5⟩, h6⟩ := ho
  have k3 := h.fe
  have kc := h.cr
  have kch := h.ch
  have km := h.mo
  have kn := h.nx
  have kb := h.bd
  have e : ∀ t, ¬ t = 4 → ¬ t = 5 → ¬ t = 71 + g 4 → ¬ t = 81 + g 4 → ¬ t = 91 + g 4 → ¬ t = 101 + g 4 → ¬ t = 111 + g 4 → ¬ t = 121 + g 4 → sp_gMoon g k d w p t = g t := fun t a b c d e f i j => by
    unfold sp_gMoon
    rw [sp_set_ne b, sp_set_ne a, sp_set_ne j, sp_set_ne i, sp_set_ne f, sp_set_ne e, sp_set_ne d, sp_set_ne c]
  have e4 : sp_gMoon g k d w p 4 = g 4 + 1 := by
    unfold sp_gMoon
    rw [sp_set_ne (by omega), sp_set_eq]
  have e5 : sp_gMoon g k d w p 5 = g 5 + 1 := sp_set_eq
  have en : sp_gMoon g k d w p (71 + g 4) = g 5 ∧ sp_gMoon g k d w p (81 + g 4) = k ∧ sp_gMoon g k d w p (91 + g 4) = d ∧ sp_gMoon g k d w p (101 + g 4) = w ∧ sp_gMoon g k d w p (111 + g 4) = p ∧ sp_gMoon g k d w p (121 + g 4) = k := by
    unfold sp_gMoon
    refine ⟨?_, ?_, ?_, ?_, ?_, ?_⟩
    · rw [sp_set_ne (by omega), sp_set_ne (by omega), sp_set_ne (by omega), sp_set_ne (by omega), sp_set_ne (by omega), sp_set_ne (by omega), sp_set_ne (by omega), sp_set_eq]
    · rw [sp_set_ne (by omega), sp_set_ne (by omega), sp_set_ne (by omega), sp_set_ne (by omega), sp_set_ne (by omega), sp_set_ne (by omega), sp_set_eq]
    · rw [sp_set_ne (by omega), sp_set_ne (by omega), sp_set_ne (by omega), sp_set_ne (by omega), sp_set_ne (by omega), sp_set_eq]
    · rw [sp_set_ne (by omega), sp_set_ne (by omega), sp_set_ne (by omega), sp_set_ne (by omega), sp_set_eq]
    · rw [sp_set_ne (by omega), sp_set_ne (by omega), sp_set_ne (by omega), sp_set_eq]
    · rw [sp_set_ne (by omega), sp_set_ne (by omega), sp_set_eq]
  have ee : ∀ t, t < 71 ∨ 131 ≤ t → ¬ t = 4 → ¬ t = 5 → sp_gMoon g k d w p t = g t := fun t x y z => e t y z (by omega) (by omega) (by omega) (by omega) (by omega) (by omega)
  have eo : ∀ q i, 0 ≤ q → q < 6 → 0 ≤ i → i < g 4 → sp_gMoon g k d w p (71 + 10 * q + i) = g (71 + 10 * q + i) := fun q i a b c d => e _ (by omega) (by omega) (by omega) (by omega) (by omega) (by omega) (by omega) (by omega)
  have e0 := ee 0 (by omega) (by omega) (by omega)
  have e1 := ee 1 (by omega) (by omega) (by omega)
  have e2 := ee 2 (by omega) (by omega) (by omega)
  have e3 := ee 3 (by omega) (by omega) (by omega)
  refine ⟨by omega, by have := h.ho; rw [e0]; omega, by rw [e1]; exact h.cr, by rw [e2]; exact h.ch, by rw [e3]; exact h.fe, by rw [e4]; omega, by rw [e5]; omega, by have := h.fa; rw [ee 6 (by omega) (by omega) (by omega)]; omega, by have := h.re; rw [ee 7 (by omega) (by omega) (by omega)]; omega, by have := h.pa; rw [ee 8 (by omega) (by omega) (by omega)]; omega, by have := h.sn; rw [ee 9 (by omega) (by omega) (by omega)]; omega, h.dep_to e1 (fun s a b => ee s (by omega) (by omega) (by omega)), h.cha_to e1 e2 (fun s a b => ee s (by omega) (by omega) (by omega)), h.uni_to e2 (fun s a b => ee s (by omega) (by omega) (by omega)), h.fer_to (by omega) e3 e0 (fun s a b => ee s (by omega) (by omega) (by omega)), fun i a b => ?_, fun f a b => ?_, h.zer_to e3 (fun s a b => ee s (by omega) (by omega) (by omega))⟩
  · rw [e4] at b
    rw [e1, e3, e5]
    by_cases q : i = g 4
    · subst q
      rw [en.1, en.2.1, en.2.2.1, en.2.2.2.1, en.2.2.2.2.1, en.2.2.2.2.2]
      omega
    · have x := h.moo i a (by omega)
      have y0 := eo 0 i (by omega) (by omega) a (by omega)
      have y1 := eo 1 i (by omega) (by omega) a (by omega)
      have y2 := eo 2 i (by omega) (by omega) a (by omega)
      have y3 := eo 3 i (by omega) (by omega) a (by omega)
      have y4 := eo 4 i (by omega) (by omega) a (by omega)
      have y5 := eo 5 i (by omega) (by omega) a (by omega)
      rw [show (71 : Int) + 10 * 0 = 71 from rfl] at y0
      rw [show (71 : Int) + 10 * 1 = 81 from rfl] at y1
      rw [show (71 : Int) + 10 * 2 = 91 from rfl] at y2
      rw [show (71 : Int) + 10 * 3 = 101 from rfl] at y3
      rw [show (71 : Int) + 10 * 4 = 111 from rfl] at y4
      rw [show (71 : Int) + 10 * 5 = 121 from rfl] at y5
      rw [y0, y1, y2, y3, y4, y5]
      omega
  · rw [e3] at b
    have cc : sp_car (sp_gMoon g k d w p) f = sp_car g f := by
      unfold sp_car
      rw [e4, sp_sum_step km.1]
      have z : sp_w (sp_gMoon g k d w p) f (g 4) = 0 := by
        unfold sp_w
        rw [en.2.2.2.2.2, if_neg (by omega)]
      rw [z, Int.add_zero]
      refine sp_sum_congr (fun i a b => ?_)
      unfold sp_w
      have y3 := eo 3 i (by omega) (by omega) a (by omega)
      have y5 := eo 5 i (by omega) (by omega) a (by omega)
      rw [show (71 : Int) + 10 * 3 = 101 from rfl] at y3
      rw [show (71 : Int) + 10 * 5 = 121 from rfl] at y5
      rw [y3, y5]
    rw [cc, ee (68 + f) (by omega) (by omega) (by omega)]
    exact h.car f a b
theorem sp_car_board {g : Int → Int} {f p k : Int} (hp : 0 ≤ p ∧ p < g 4 ∧ g 4 ≤ 10) (hw : g (121 + p) < 10) (hf : 0 ≤ f ∧ 0 ≤ k) : sp_car (sp_gBoard g f p) k = sp_car g k + (if k = f then g (101 + p) else 0) := by
  have e : ∀ s, ¬ s = 121 + p → sp_gBoard g f p s = g s := fun s a => sp_set_ne a
  have e4 := e 4 (by omega)
  unfold sp_car
  rw [e4, sp_sum_upd (f := sp_w g k) hp.1 (fun i a b q => by unfold sp_w; rw [e (121 + i) (by omega), e (101 + i) (by omega)]), if_pos (by omega)]
  have w1 : sp_w g k p = 0 := by
    unfold sp_w
    rw [if_neg (by omega)]
  have w2 : sp_w (sp_gBoard g f p) k p = if k = f then g (101 + p) else 0 := by
    unfold sp_w
    rw [show sp_gBoard g f p (121 + p) = 10 + f from sp_set_eq, e (101 + p) (by omega)]
    by_cases z : k = f
    · rw [if_pos (by omega), if_pos z]
    · rw [if_neg (by omega), if_neg z]
  rw [w1, w2]
  omega
theorem inv_board {g : Int → Int} {B f p : Int} (h : Inv g B) (hf : 0 ≤ f ∧ f < g 3) (hp : 0 ≤ p ∧ p < g 4) (hw : g (121 + p) < 10) (hc : sp_car g f + g (101 + p) ≤ g (68 + f)) : Inv (sp_gBoard g f p) B := by
  have km := h.mo
  have k3 := h.fe
  have e : ∀ s, ¬ s = 121 + p → sp_gBoard g f p s = g s := fun s a => sp_set_ne a
  have ee : ∀ s, s < 121 ∨ 131 ≤ s → sp_gBoard g f p s = g s := fun s a => e s (by omega)
  have e0 := ee 0 (by omega)
  have e1 := ee 1 (by omega)
  have e2 := ee 2 (by omega)
  have e3 := ee 3 (by omega)
  have e4 := ee 4 (by omega)
  have e5 := ee 5 (by omega)
  refine ⟨h.bd, by rw [e0]; exact h.ho, by rw [e1]; exact h.cr, by rw [e2]; exact h.ch, by rw [e3]; exact h.fe, by rw [e4]; exact h.mo, by rw [e5]; exact h.nx, by rw [ee 6 (by omega)]; exact h.fa, by rw [ee 7 (by omega)]; exact h.re, by rw [ee 8 (by omega)]; exact h.pa, by rw [ee 9 (by omega)]; exact h.sn, h.dep_to e1 (fun s a b => ee s (by have := h.cr; omega)), h.cha_to e1 e2 (fun s a b => ee s (by omega)), h.uni_to e2 (fun s a b => ee s (by omega)), h.fer_to (by omega) e3 e0 (fun s a b => ee s (by omega)), fun i a b => ?_, fun i a b => ?_, h.zer_to e3 (fun s a b => ee s (by omega))⟩
  · rw [e4] at b
    have x := h.moo i a b
    rw [ee (71 + i) (by omega), ee (81 + i) (by omega), ee (91 + i) (by omega), ee (101 + i) (by omega), ee (111 + i) (by omega), e1, e3, e5]
    by_cases q : i = p
    · subst q
      rw [show sp_gBoard g f i (121 + i) = 10 + f from sp_set_eq]
      omega
    · rw [e (121 + i) (by omega)]
      exact x
  · rw [e3] at b
    rw [sp_car_board ⟨hp.1, hp.2, km.2⟩ hw ⟨hf.1, a⟩, ee (68 + i) (by omega)]
    have := h.car i a b
    split
    · rename_i q
      rw [q]
      exact hc
    · omega
theorem sp_cnt_rng {g : Int → Int} {f : Int} (n : Nat) : 0 ≤ sp_cnt g f n ∧ sp_cnt g f n ≤ n := by
  have := sp_sum_bd (f := fun p => if g (121 + p) = 10 + f then (1 : Int) else 0) (b := 1) (n := n) (fun i a b => by split <;> omega)
  unfold sp_cnt
  omega
theorem inv_rescue {g : Int → Int} {B f : Int} (h : Inv g B) (hB : B + 10 ≤ 4000000) (hf : 0 ≤ f ∧ f < g 3) : Inv (sp_gRescue g f) (B + 10) := by
  have km := h.mo
  have k3 := h.fe
  have kb := h.bd
  have kf := h.fer f hf.1 hf.2
  have kc := h.cr
  have ee : ∀ s, s < 121 ∨ 131 ≤ s → ¬ s = 7 → sp_gRescue g f s = g s := fun s a b => by
    unfold sp_gRescue
    rw [if_neg b, if_neg (by omega)]
  have e0 := ee 0 (by omega) (by omega)
  have e1 := ee 1 (by omega) (by omega)
  have e2 := ee 2 (by omega) (by omega)
  have e3 := ee 3 (by omega) (by omega)
  have e4 := ee 4 (by omega) (by omega)
  have e5 := ee 5 (by omega) (by omega)
  have e7 : sp_gRescue g f 7 = g 7 + sp_cnt g f (g 4).toNat := if_pos rfl
  have rc := sp_cnt_rng (g := g) (f := f) (g 4).toNat
  have ew : ∀ i, 0 ≤ i → i < g 4 → sp_gRescue g f (121 + i) = if g (121 + i) = 10 + f then g (56 + f) else g (121 + i) := fun i a b => by
    unfold sp_gRescue
    rw [if_neg (by omega)]
    by_cases z : g (121 + i) = 10 + f
    · rw [if_pos ⟨by omega, by omega, z⟩, if_pos z]
    · rw [if_neg (fun y => z y.2.2), if_neg z]
  refine ⟨by omega, by have := h.ho; rw [e0]; omega, by rw [e1]; exact h.cr, by rw [e2]; exact h.ch, by rw [e3]; exact h.fe, by rw [e4]; exact h.mo, by have := h.nx; rw [e5]; omega, by have := h.fa; rw [ee 6 (by omega) (by omega)]; omega, by have := h.re; rw [e7]; omega, by have := h.pa; rw [ee 8 (by omega) (by omega)]; omega, by have := h.sn; rw [ee 9 (by omega) (by omega)]; omega, h.dep_to e1 (fun s a b => ee s (by omega) (by omega)), h.cha_to e1 e2 (fun s a b => ee s (by omega) (by omega)), h.uni_to e2 (fun s a b => ee s (by omega) (by omega)), h.fer_to (by omega) e3 e0 (fun s a b => ee s (by omega) (by omega)), fun i a b => ?_, fun i a b => ?_, h.zer_to e3 (fun s a b => ee s (by omega) (by omega))⟩
  · rw [e4] at b
    have x := h.moo i a b
    rw [ee (71 + i) (by omega) (by omega), ee (81 + i) (by omega) (by omega), ee (91 + i) (by omega) (by omega), ee (101 + i) (by omega) (by omega), ee (111 + i) (by omega) (by omega), e1, e3, e5, ew i a b]
    split <;> omega
  · rw [e3] at b
    rw [ee (68 + i) (by omega) (by omega)]
    have x := h.car i a b
    by_cases q : i = f
    · subst q
      have : sp_car (sp_gRescue g i) i = 0 := sp_sum_0 (fun j c d => by
        rw [e4] at d
        unfold sp_w
        rw [ew j c (by omega)]
        by_cases z : g (121 + j) = 10 + i
        · rw [if_pos z, if_neg (by omega)]
        · rw [if_neg z, if_neg z])
      have := sp_car_bd (f := i) h
      omega
    · have : sp_car (sp_gRescue g f) i = sp_car g i := sp_car_congr km.2 e4 (fun j c d => by
        unfold sp_w
        rw [ew j c d, ee (101 + j) (by omega) (by omega)]
        by_cases z : g (121 + j) = 10 + f
        · rw [if_pos z, if_neg (by omega), if_neg (by omega)]
        · rw [if_neg z])
      omega
/-- arrivals stay ahead where ferries and the hour stay -/
theorem sp_fut_to {g g' : Int → Int} (h : sp_fut g) (h3 : g 3 ≤ 3) (e0 : g' 0 = g 0) (e3 : g' 3 = g 3) (e : ∀ s, 62 ≤ s → s < 65 → g' s = g s) : sp_fut g' := fun f a b => by
  rw [e3] at b
  rw [e0, e (62 + f) (by omega) (by omega)]
  exact h f a b
end

