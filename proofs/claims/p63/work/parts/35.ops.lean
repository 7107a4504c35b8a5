/-! words of changes, and the invariant under them -/
section
theorem sp_first_ex (P : Int → Prop) (n : Int) : ∃ r, sp_first P n r := by
  rcases Classical.em (∃ m : Nat, (m : Int) < n ∧ P m) with h | h
  · have hd : ∃ m : Nat, ((m : Int) < n ∧ P m) ∧ ∀ k : Nat, k < m → ¬ ((k : Int) < n ∧ P k) := by
      obtain ⟨m, hm⟩ := h
      induction m using Nat.strongRecOn with
      | ind m ih =>
        rcases Classical.em (∃ k : Nat, k < m ∧ ((k : Int) < n ∧ P k)) with q | q
        · obtain ⟨k, hk, hk2⟩ := q
          exact ih k hk hk2
        · exact ⟨m, hm, fun k hk z => q ⟨k, hk, z⟩⟩
    obtain ⟨m, ⟨h1, h2⟩, h3⟩ := hd
    refine ⟨m, Or.inr ⟨by omega, h1, h2, fun i a b z => ?_⟩⟩
    refine h3 i.toNat (by omega) ⟨by omega, ?_⟩
    rw [Int.toNat_of_nonneg a]
    exact z
  · refine ⟨-1, Or.inl ⟨rfl, fun i a b z => h ⟨i.toNat, by omega, ?_⟩⟩⟩
    rw [Int.toNat_of_nonneg a]
    exact z
noncomputable def sp_btwF (g : Int → Int) (a b : Int) : Int := Classical.choose (sp_first_ex (sp_con g a b) (g 2))
theorem sp_btwF_spec (g : Int → Int) (a b : Int) : sp_btw g a b (sp_btwF g a b) := Classical.choose_spec (sp_first_ex (sp_con g a b) (g 2))
theorem sp_btwF_eq {g : Int → Int} {a b r : Int} (h : sp_btw g a b r) : r = sp_btwF g a b := sp_first_uniq h (sp_btwF_spec g a b)
theorem sp_btwF_rng (g : Int → Int) (a b : Int) : sp_btwF g a b = -1 ∨ (0 ≤ sp_btwF g a b ∧ sp_btwF g a b < g 2 ∧ sp_con g a b (sp_btwF g a b)) := sp_first_rng (sp_btwF_spec g a b)
theorem sp_btwF_no {g : Int → Int} {a b : Int} (h : sp_btwF g a b = -1) : ∀ i, 0 ≤ i → i < g 2 → ¬ sp_con g a b i := by
  rcases sp_btwF_spec g a b with ⟨_, k⟩ | ⟨k, _⟩
  · exact k
  · omega
noncomputable def sp_plcF (g : Int → Int) (m : Int) : Int := Classical.choose (sp_first_ex (fun p => g (71 + p) = m) (g 4))
theorem sp_plcF_spec (g : Int → Int) (m : Int) : sp_plc g m (sp_plcF g m) := Classical.choose_spec (sp_first_ex (fun p => g (71 + p) = m) (g 4))
theorem sp_plcF_eq {g : Int → Int} {m r : Int} (h : sp_plc g m r) : r = sp_plcF g m := sp_first_uniq h (sp_plcF_spec g m)
theorem sp_plcF_rng (g : Int → Int) (m : Int) : sp_plcF g m = -1 ∨ (0 ≤ sp_plcF g m ∧ sp_plcF g m < g 4) := by
  rcases sp_first_rng (sp_plcF_spec g m) with h | h
  · exact Or.inl h
  · exact Or.inr ⟨h.1, h.2.1⟩
theorem sp_sum_upd {f h : Int → Int} {p : Int} (hp : 0 ≤ p) : ∀ {n : Nat}, (∀ i : Int, 0 ≤ i → i < n → ¬ i = p → h i = f i) → sp_sum h n = sp_sum f n + (if p < n then h p - f p else 0)
  | 0, _ => by rw [if_neg (by omega)]; rfl
  | n + 1, e => by
    rw [sp_sum, sp_sum, sp_sum_upd hp (n := n) (fun i a b => e i a (by omega))]
    by_cases q : p = n
    · subst q
      rw [if_neg (by omega), if_pos (by omega)]
      omega
    · rw [e n (by omega) (by omega) (fun z => q z.symm)]
      by_cases w : p < n
      · rw [if_pos w, if_pos (by omega)]
        omega
      · rw [if_neg w, if_neg (by omega)]
        omega
theorem sp_sum_0 {f : Int → Int} : ∀ {n : Nat}, (∀ i : Int, 0 ≤ i → i < n → f i = 0) → sp_sum f n = 0
  | 0, _ => rfl
  | n + 1, e => by
    rw [sp_sum, sp_sum_0 (n := n) (fun i a b => e i a (by omega)), e n (by omega) (by omega)]
    rfl
def sp_gCrater (g : Int → Int) (d : Int) : Int → Int := sp_set (sp_set g (10 + g 1) d) 1 (g 1 + 1)
def sp_gChannel (g : Int → Int) (a b h s : Int) : Int → Int := sp_set (sp_set (sp_set (sp_set (sp_set g (16 + g 2) a) (26 + g 2) b) (36 + g 2) h) (46 + g 2) s) 2 (g 2 + 1)
def sp_gDrop (g : Int → Int) (c : Int) : Int → Int := sp_set (sp_drp g 16 4 c) 2 (g 2 - 1)
def sp_gFerry (g : Int → Int) (k d w : Int) : Int → Int := sp_set (sp_set (sp_set (sp_set g (56 + g 3) k) (65 + g 3) d) (68 + g 3) w) 3 (g 3 + 1)
def sp_gSail (g : Int → Int) (f k c : Int) : Int → Int := sp_set (sp_set (sp_set g (59 + f) (g (56 + f))) (56 + f) k) (62 + f) (g 0 + g (36 + c))
def sp_gMoon (g : Int → Int) (k d w p : Int) : Int → Int := sp_set (sp_set (sp_set (sp_set (sp_set (sp_set (sp_set (sp_set g (71 + g 4) (g 5)) (81 + g 4) k) (91 + g 4) d) (101 + g 4) w) (111 + g 4) p) (121 + g 4) k) 4 (g 4 + 1)) 5 (g 5 + 1)
def sp_gBoard (g : Int → Int) (f p : Int) : Int → Int := sp_set g (121 + p) (10 + f)
def sp_cnt (g : Int → Int) (f : Int) (n : Nat) : Int := sp_sum (fun p => if g (121 + p) = 10 + f then 1 else 0) n
def sp_gRescue (g : Int → Int) (f : Int) : Int → Int := fun s => if s = 7 then g 7 + sp_cnt g f (g 4).toNat else if 121 ≤ s ∧ s < 121 + g 4 ∧ g s = 10 + f then g (56 + f) else g s
/-! which changes fail, and how (the class's answer, the reason kept) -/
def sp_fCrater (g : Int → Int) (d e : Int) : Prop := (e = -2 ∧ (d < 0 ∨ 9 < d)) ∨ (e = -3 ∧ 0 ≤ d ∧ d ≤ 9 ∧ 6 ≤ g 1)
def sp_oCrater (g : Int → Int) (d : Int) : Prop := 0 ≤ d ∧ d ≤ 9 ∧ g 1 < 6
def sp_isC (g : Int → Int) (a : Int) : Prop := 0 ≤ a ∧ a < g 1
def sp_isF (g : Int → Int) (a : Int) : Prop := 0 ≤ a ∧ a < g 3
def sp_arC (a b h s : Int) : Prop := ¬ a = b ∧ 1 ≤ h ∧ h ≤ 9 ∧ 0 ≤ s ∧ s ≤ 9
def sp_fChannel (g : Int → Int) (a b h s e : Int) : Prop := (e = -1 ∧ ¬ (sp_isC g a ∧ sp_isC g b)) ∨ (e = -2 ∧ (sp_isC g a ∧ sp_isC g b) ∧ ¬ sp_arC a b h s) ∨ (e = -3 ∧ (sp_isC g a ∧ sp_isC g b) ∧ sp_arC a b h s ∧ (10 ≤ g 2 ∨ ¬ sp_btwF g a b = -1))
def sp_oChannel (g : Int → Int) (a b h s : Int) : Prop := (sp_isC g a ∧ sp_isC g b) ∧ sp_arC a b h s ∧ g 2 < 10 ∧ sp_btwF g a b = -1
def sp_any (g : Int → Int) (a b : Int) : Prop := ∃ f, 0 ≤ f ∧ f < g 3 ∧ sp_psg g a b f
def sp_fDrop (g : Int → Int) (c e : Int) : Prop := (e = -1 ∧ ¬ (0 ≤ c ∧ c < g 2)) ∨ (e = -3 ∧ (0 ≤ c ∧ c < g 2) ∧ sp_any g (g (16 + c)) (g (26 + c)))
def sp_oDrop (g : Int → Int) (c : Int) : Prop := (0 ≤ c ∧ c < g 2) ∧ ¬ sp_any g (g (16 + c)) (g (26 + c))
def sp_arF (d w : Int) : Prop := 1 ≤ d ∧ d ≤ 12 ∧ 1 ≤ w ∧ w ≤ 99
def sp_fFerry (g : Int → Int) (k d w e : Int) : Prop := (e = -1 ∧ ¬ sp_isC g k) ∨ (e = -2 ∧ sp_isC g k ∧ ¬ sp_arF d w) ∨ (e = -3 ∧ sp_isC g k ∧ sp_arF d w ∧ 3 ≤ g 3)
def sp_oFerry (g : Int → Int) (k d w : Int) : Prop := sp_isC g k ∧ sp_arF d w ∧ g 3 < 3
noncomputable def sp_sS (g : Int → Int) (f : Int) : Int := sp_b (sp_stk g f)
noncomputable def sp_sO (g : Int → Int) (f c : Int) : Int := sp_b (sp_opn g f c (g 0))
/-- r: the reason kept, 0 where it stays -/
def sp_fSail (g : Int → Int) (f k e r : Int) : Prop := (e = -1 ∧ r = 0 ∧ ¬ (sp_isF g f ∧ sp_isC g k)) ∨ (e = -3 ∧ r = 0 ∧ (sp_isF g f ∧ sp_isC g k) ∧ 0 < g (62 + f)) ∨ (e = -4 ∧ (sp_isF g f ∧ sp_isC g k) ∧ g (62 + f) ≤ 0 ∧ ((r = 1 ∧ sp_btwF g (g (56 + f)) k = -1) ∨ (r = 2 ∧ ¬ sp_btwF g (g (56 + f)) k = -1 ∧ sp_sS g f = 1) ∨ (r = 3 ∧ ¬ sp_btwF g (g (56 + f)) k = -1 ∧ sp_sS g f = 0 ∧ sp_sO g f (sp_btwF g (g (56 + f)) k) = 0)))
def sp_oSail (g : Int → Int) (f k : Int) : Prop := (sp_isF g f ∧ sp_isC g k) ∧ g (62 + f) ≤ 0 ∧ ¬ sp_btwF g (g (56 + f)) k = -1 ∧ sp_sS g f = 0 ∧ sp_sO g f (sp_btwF g (g (56 + f)) k) = 1
def sp_arM (k d w p : Int) : Prop := ¬ k = d ∧ 1 ≤ w ∧ w ≤ 40 ∧ 0 ≤ p ∧ p < 8
def sp_fMoon (g : Int → Int) (k d w p e : Int) : Prop := (e = -1 ∧ ¬ (sp_isC g k ∧ sp_isC g d)) ∨ (e = -2 ∧ (sp_isC g k ∧ sp_isC g d) ∧ ¬ sp_arM k d w p) ∨ (e = -3 ∧ (sp_isC g k ∧ sp_isC g d) ∧ sp_arM k d w p ∧ 10 ≤ g 4)
def sp_oMoon (g : Int → Int) (k d w p : Int) : Prop := (sp_isC g k ∧ sp_isC g d) ∧ sp_arM k d w p ∧ g 4 < 10
def sp_fBoard (g : Int → Int) (f m e r : Int) : Prop := (e = -1 ∧ r = 0 ∧ ¬ sp_isF g f) ∨ (e = -5 ∧ r = 0 ∧ sp_isF g f ∧ sp_plcF g m = -1) ∨ (e = -3 ∧ r = 0 ∧ sp_isF g f ∧ ¬ sp_plcF g m = -1 ∧ 10 ≤ g (121 + sp_plcF g m)) ∨ (e = -4 ∧ sp_isF g f ∧ ¬ sp_plcF g m = -1 ∧ g (121 + sp_plcF g m) < 10 ∧ ((r = 4 ∧ (0 < g (62 + f) ∨ ¬ g (121 + sp_plcF g m) = g (56 + f))) ∨ (g (62 + f) ≤ 0 ∧ g (121 + sp_plcF g m) = g (56 + f) ∧ ((r = 5 ∧ sp_sS g f = 1) ∨ (sp_sS g f = 0 ∧ ((r = 6 ∧ g (68 + f) < sp_car g f + g (101 + sp_plcF g m)) ∨ (r = 7 ∧ sp_car g f + g (101 + sp_plcF g m) ≤ g (68 + f) ∧ g (111 + sp_plcF g m) = 0)))))))
def sp_oBoard (g : Int → Int) (f m : Int) : Prop := sp_isF g f ∧ ¬ sp_plcF g m = -1 ∧ g (121 + sp_plcF g m) < 10 ∧ g (62 + f) ≤ 0 ∧ g (121 + sp_plcF g m) = g (56 + f) ∧ sp_sS g f = 0 ∧ sp_car g f + g (101 + sp_plcF g m) ≤ g (68 + f) ∧ ¬ g (111 + sp_plcF g m) = 0
def sp_fRescue (g : Int → Int) (f e : Int) : Prop := (e = -1 ∧ ¬ sp_isF g f) ∨ (e = -3 ∧ sp_isF g f ∧ sp_sS g f = 0)
def sp_oRescue (g : Int → Int) (f : Int) : Prop := sp_isF g f ∧ sp_sS g f = 1
theorem sp_sS_rng (g : Int → Int) (f : Int) : 0 ≤ sp_sS g f ∧ sp_sS g f ≤ 1 := sp_b_rng _
theorem sp_sO_rng (g : Int → Int) (f c : Int) : 0 ≤ sp_sO g f c ∧ sp_sO g f c ≤ 1 := sp_b_rng _
theorem sp_sS_iff {g : Int → Int} {f : Int} : sp_sS g f = 1 ↔ sp_stk g f := by
  rcases Classical.em (sp_stk g f) with h | h
  · exact ⟨fun _ => h, fun _ => sp_bT h⟩
  · refine ⟨fun q => ?_, fun q => absurd q h⟩
    have := sp_bF h
    unfold sp_sS at q
    omega
theorem sp_sO_iff {g : Int → Int} {f c : Int} : sp_sO g f c = 1 ↔ sp_opn g f c (g 0) := by
  rcases Classical.em (sp_opn g f c (g 0)) with h | h
  · exact ⟨fun _ => h, fun _ => sp_bT h⟩
  · refine ⟨fun q => ?_, fun q => absurd q h⟩
    have := sp_bF h
    unfold sp_sO at q
    omega
/-! the invariant -/
theorem inv_crater {g : Int → Int} {B d : Int} (h : Inv g B) (ho : sp_oCrater g d) : Inv (sp_gCrater g d) B := by
  unfold sp_oCrater at ho
  have k1 := h.cr
  have e : ∀ s, ¬ s = 1 → ¬ s = 10 + g 1 → sp_gCrater g d s = g s := fun s a b => by
    unfold sp_gCrater
    rw [sp_set_ne a, sp_set_ne b]
  have e1 : sp_gCrater g d 1 = g 1 + 1 := sp_set_eq
  have e0 := e 0 (by omega) (by omega)
  have e2 := e 2 (by omega) (by omega)
  have e3 := e 3 (by omega) (by omega)
  have e4 := e 4 (by omega) (by omega)
  have e5 := e 5 (by omega) (by omega)
  have hc := h.ch
  refine ⟨h.bd, by rw [e0]; exact h.ho, by rw [e1]; omega, by rw [e2]; exact h.ch, by rw [e3]; exact h.fe, by rw [e4]; exact h.mo, by rw [e5]; exact h.nx, by rw [e 6 (by omega) (by omega)]; exact h.fa, by rw [e 7 (by omega) (by omega)]; exact h.re, by rw [e 8 (by omega) (by omega)]; exact h.pa, by rw [e 9 (by omega) (by omega)]; exact h.sn, fun i a b => ?_, fun i a b => ?_, h.uni_to e2 (fun s a b => e s (by omega) (by omega)), h.fer_to (by omega) e3 e0 (fun s a b => e s (by omega) (by omega)), h.moo_to (by omega) (by omega) e4 (by omega) (fun s a b => e s (by omega) (by omega)), h.car_to e3 e4 (fun s a b => e s (by omega) (by omega)), h.zer_to e3 (fun s a b => e s (by omega) (by omega))⟩
  · rw [e1] at b
    by_cases q : i = g 1
    · subst q
      have : sp_gCrater g d (10 + g 1) = d := by
        unfold sp_gCrater
        rw [sp_set_ne (by omega), sp_set_eq]
      omega
    · rw [e (10 + i) (by omega) (by omega)]
      exact h.dep i a (by omega)
  · rw [e2] at b
    have := h.cha i a b
    rw [e (16 + i) (by omega) (by omega), e (26 + i) (by omega) (by omega), e (36 + i) (by omega) (by omega), e (46 + i) (by omega) (by omega), e1]
    omega
theorem inv_channel {g : Int → Int} {B a b hh s : Int} (h : Inv g B) (ho : sp_oChannel g a b hh s) : Inv (sp_gChannel g a b hh s) B := by
  obtain ⟨⟨⟨ha, ha2⟩, hb, hb2⟩, ⟨h1, h2, h3, h4, h5⟩, h6, h7⟩ := ho
  have k2 := h.ch
  have e : ∀ t, ¬ t = 2 → ¬ t = 16 + g 2 → ¬ t = 26 + g 2 → ¬ t = 36 + g 2 → ¬ t = 46 + g 2 → sp_gChannel g a b hh s t = g t := fun t a b c d e => by
    unfold sp_gChannel
    rw [sp_set_ne a, sp_set_ne e, sp_set_ne d, sp_set_ne c, sp_set_ne b]
  have e2 : sp_gChannel g a b hh s 2 = g 2 + 1 := sp_set_eq
  have en : sp_gChannel g a b hh s (16 + g 2) = a ∧ sp_gChannel g a b hh s (26 + g 2) = b ∧ sp_gChannel g a b hh s (36 + g 2) = hh ∧ sp_gChannel g a b hh s (46 + g 2) = s := by
    unfold sp_gChannel
    refine ⟨?_, ?_, ?_, ?_⟩
    · rw [sp_set_ne (by omega), sp_set_ne (by omega), sp_set_ne (by omega), sp_set_ne (by omega), sp_set_eq]
    · rw [sp_set_ne (by omega), sp_set_ne (by omega), sp_set_ne (by omega), sp_set_eq]
    · rw [sp_set_ne (by omega), sp_set_ne (by omega), sp_set_eq]
    · rw [sp_set_ne (by omega), sp_set_eq]
  have eo : ∀ i, 0 ≤ i → i < g 2 → sp_gChannel g a b hh s (16 + i) = g (16 + i) ∧ sp_gChannel g a b hh s (26 + i) = g (26 + i) ∧ sp_gChannel g a b hh s (36 + i) = g (36 + i) ∧ sp_gChannel g a b hh s (46 + i) = g (46 + i) := fun i a b => ⟨e _ (by omega) (by omega) (by omega) (by omega) (by omega), e _ (by omega) (by omega) (by omega) (by omega) (by omega), e _ (by omega) (by omega) (by omega) (by omega) (by omega), e _ (by omega) (by omega) (by omega) (by omega) (by omega)⟩
  have ee : ∀ t, t < 16 ∨ 56 ≤ t → ¬ t = 2 → sp_gChannel g a b hh s t = g t := fun t x y => e t y (by omega) (by omega) (by omega) (by omega)
  have e0 := ee 0 (by omega) (by omega)
  have e1 := ee 1 (by omega) (by omega)
  have e3 := ee 3 (by omega) (by omega)
  have e4 := ee 4 (by omega) (by omega)
  have e5 := ee 5 (by omega) (by omega)
  refine ⟨h.bd, by rw [e0]; exact h.ho, by rw [e1]; exact h.cr, by rw [e2]; omega, by rw [e3]; exact h.fe, by rw [e4]; exact h.mo, by rw [e5]; exact h.nx, by rw [ee 6 (by omega) (by omega)]; exact h.fa, by rw [ee 7 (by omega) (by omega)]; exact h.re, by rw [ee 8 (by omega) (by omega)]; exact h.pa, by rw [ee 9 (by omega) (by omega)]; exact h.sn, h.dep_to e1 (fun s a b => ee s (by omega) (by omega)), fun i a b => ?_, fun i j a b d => ?_, h.fer_to (by omega) e3 e0 (fun s a b => ee s (by omega) (by omega)), h.moo_to (by omega) (by omega) e4 (by omega) (fun s a b => ee s (by omega) (by omega)), h.car_to e3 e4 (fun s a b => ee s (by omega) (by omega)), h.zer_to e3 (fun s a b => ee s (by omega) (by omega))⟩
  · rw [e2] at b
    rw [e1]
    by_cases q : i = g 2
    · subst q
      rw [en.1, en.2.1, en.2.2.1, en.2.2.2]
      omega
    · have x := eo i a (by omega)
      rw [x.1, x.2.1, x.2.2.1, x.2.2.2]
      exact h.cha i a (by omega)
  · rw [e2] at d
    have x := eo i a (by omega)
    unfold sp_con
    rw [x.1, x.2.1]
    by_cases q : j = g 2
    · subst q
      rw [en.1, en.2.1]
      have := sp_btwF_no h7 i a (by omega)
      unfold sp_con at this
      omega
    · have y := eo j (by omega) (by omega)
      rw [y.1, y.2.1]
      exact h.uni i j a b (by omega)
theorem sp_drp_at {g : Int → Int} {s0 m pl q i : Int} (hq : 0 ≤ q ∧ q < m) (hi : 0 ≤ i ∧ i < 9) (hp : 0 ≤ pl) : sp_drp g s0 m pl (s0 + 10 * q + i) = if pl ≤ i then g (s0 + 10 * q + i + 1) else g (s0 + 10 * q + i) := by
  unfold sp_drp
  have e : (s0 + 10 * q + i - s0) % 10 = i := by omega
  rw [e]
  by_cases z : pl ≤ i
  · rw [if_pos (by omega), if_pos z]
  · rw [if_neg (by omega), if_neg z]
theorem sp_drp_out {g : Int → Int} {s0 m pl s : Int} (h : s < s0 ∨ s0 + 10 * m ≤ s) : sp_drp g s0 m pl s = g s := by
  unfold sp_drp
  rw [if_neg (by omega)]
theorem inv_drop {g : Int → Int} {B c : Int} (h : Inv g B) (ho : sp_oDrop g c) : Inv (sp_gDrop g c) B := by
  obtain ⟨⟨c0, c1⟩, _⟩ := ho
  have k2 := h.ch
  have e : ∀ t, t < 16 ∨ 56 ≤ t → ¬ t = 2 → sp_gDrop g c t = g t := fun t x y => by
    unfold sp_gDrop
    rw [sp_set_ne y, sp_drp_out (by omega)]
  have e2 : sp_gDrop g c 2 = g 2 - 1 := sp_set_eq
  have ec : ∀ i, 0 ≤ i → i < g 2 - 1 → ∃ j, 0 ≤ j ∧ j < g 2 ∧ (j = if c ≤ i then i + 1 else i) ∧ sp_gDrop g c (16 + i) = g (16 + j) ∧ sp_gDrop g c (26 + i) = g (26 + j) ∧ sp_gDrop g c (36 + i) = g (36 + j) ∧ sp_gDrop g c (46 + i) = g (46 + j) := fun i a b => by
    have x : ∀ q, 0 ≤ q → q < 4 → sp_gDrop g c (16 + 10 * q + i) = g (16 + 10 * q + (if c ≤ i then i + 1 else i)) := fun q q0 q1 => by
      unfold sp_gDrop
      rw [sp_set_ne (by omega), sp_drp_at ⟨q0, q1⟩ (by omega) c0]
      split
      · congr 1
        omega
      · rfl
    refine ⟨if c ≤ i then i + 1 else i, by split <;> omega, by split <;> omega, rfl, x 0 (by omega) (by omega), x 1 (by omega) (by omega), x 2 (by omega) (by omega), x 3 (by omega) (by omega)⟩
  have e0 := e 0 (by omega) (by omega)
  have e1 := e 1 (by omega) (by omega)
  have e3 := e 3 (by omega) (by omega)
  have e4 := e 4 (by omega) (by omega)
  have e5 := e 5 (by omega) (by omega)
  refine ⟨h.bd, by rw [e0]; exact h.ho, by rw [e1]; exact h.cr, by rw [e2]; omega, by rw [e3]; exact h.fe, by rw [e4]; exact h.mo, by rw [e5]; exact h.nx, by rw [e 6 (by omega) (by omega)]; exact h.fa, by rw [e 7 (by omega) (by omega)]; exact h.re, by rw [e 8 (by omega) (by omega)]; exact h.pa, by rw [e 9 (by omega) (by omega)]; exact h.sn, h.dep_to e1 (fun s a b => e s (by omega) (by omega)), fun i a b => ?_, fun i j a b d => ?_, h.fer_to (by omega) e3 e0 (fun s a b => e s (by omega) (by omega)), h.moo_to (by omega) (by omega) e4 (by omega) (fun s a b => e s (by omega) (by omega)), h.car_to e3 e4 (fun s a b => e s (by omega) (by omega)), h.zer_to e3 (fun s a b => e s (by omega) (by omega))⟩
  · rw [e2] at b
    obtain ⟨j, j0, j1, _, x1, x2, x3, x4⟩ := ec i a b
    rw [x1, x2, x3, x4, e1]
    exact h.cha j j0 j1
  · rw [e2] at d
    obtain ⟨i', i0, i1, i2, x1, x2, _⟩ := ec i a (by omega)
    obtain ⟨j', j0, j1, j2, y1, y2, _⟩ := ec j (by omega) d
    unfold sp_con
    rw [x1, x2, y1, y2]
    have lt : i' < j' := by
      rw [i2, j2]
      split <;> split <;> omega
    exact h.uni i' j' i0 lt j1
end

