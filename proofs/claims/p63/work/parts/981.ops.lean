/-! the changes, runnable -/
def c_oo (κ : Nat) (g : Int → Int) (a b c d : Int) : Bool := match κ with
  | 0 => decide (0 ≤ a ∧ a ≤ 9 ∧ g 1 < 6)
  | 1 => decide (((0 ≤ a ∧ a < g 1) ∧ (0 ≤ b ∧ b < g 1)) ∧ (¬ a = b ∧ 1 ≤ c ∧ c ≤ 9 ∧ 0 ≤ d ∧ d ≤ 9) ∧ g 2 < 10 ∧ c_btw g a b = -1)
  | 2 => decide ((0 ≤ a ∧ a < g 1) ∧ (1 ≤ b ∧ b ≤ 12 ∧ 1 ≤ c ∧ c ≤ 99) ∧ g 3 < 3)
  | 3 => decide (((0 ≤ a ∧ a < g 1) ∧ (0 ≤ b ∧ b < g 1)) ∧ (¬ a = b ∧ 1 ≤ c ∧ c ≤ 40 ∧ 0 ≤ d ∧ d < 8) ∧ g 4 < 10)
  | 4 => decide (((0 ≤ a ∧ a < g 3) ∧ (0 ≤ b ∧ b < g 1)) ∧ g (62 + a) ≤ 0 ∧ ¬ c_btw g (g (56 + a)) b = -1 ∧ c_sS g a = 0 ∧ c_sO g a (c_btw g (g (56 + a)) b) = 1)
  | 5 => false
  | 6 => decide (¬ c_plc g a = -1 ∧ 0 ≤ sp_fy g (c_plc g a) ∧ g (62 + sp_fy g (c_plc g a)) ≤ 0 ∧ c_sS g (sp_fy g (c_plc g a)) = 0)
  | 7 => decide ((0 ≤ a ∧ a < g 3) ∧ g (62 + a) ≤ 0 ∧ c_sS g a = 0)
  | 8 => decide ((0 ≤ a ∧ a < g 3) ∧ c_sS g a = 1)
  | 9 => decide (1 ≤ a ∧ a ≤ 48)
  | _ => false
theorem c_oo_ok {κ : Nat} {g : Int → Int} {a b c d : Int} (h : c_oo κ g a b c d = true) : sp_oo κ g a b c d := by
  match κ, h with
  | 0, h =>
    have k : 0 ≤ a ∧ a ≤ 9 ∧ g 1 < 6 := of_decide_eq_true h
    exact k
  | 1, h =>
    have k : ((0 ≤ a ∧ a < g 1) ∧ (0 ≤ b ∧ b < g 1)) ∧ (¬ a = b ∧ 1 ≤ c ∧ c ≤ 9 ∧ 0 ≤ d ∧ d ≤ 9) ∧ g 2 < 10 ∧ c_btw g a b = -1 := of_decide_eq_true h
    simp only [← c_btw_eq] at k
    exact k
  | 2, h =>
    have k : (0 ≤ a ∧ a < g 1) ∧ (1 ≤ b ∧ b ≤ 12 ∧ 1 ≤ c ∧ c ≤ 99) ∧ g 3 < 3 := of_decide_eq_true h
    exact k
  | 3, h =>
    have k : ((0 ≤ a ∧ a < g 1) ∧ (0 ≤ b ∧ b < g 1)) ∧ (¬ a = b ∧ 1 ≤ c ∧ c ≤ 40 ∧ 0 ≤ d ∧ d < 8) ∧ g 4 < 10 := of_decide_eq_true h
    exact k
  | 4, h =>
    have k : ((0 ≤ a ∧ a < g 3) ∧ (0 ≤ b ∧ b < g 1)) ∧ g (62 + a) ≤ 0 ∧ ¬ c_btw g (g (56 + a)) b = -1 ∧ c_sS g a = 0 ∧ c_sO g a (c_btw g (g (56 + a)) b) = 1 := of_decide_eq_true h
    simp only [← c_btw_eq, ← c_sS_eq, ← c_sO_eq] at k
    exact k
  | 5, h => exact absurd h Bool.false_ne_true
  | 6, h =>
    have k : ¬ c_plc g a = -1 ∧ 0 ≤ sp_fy g (c_plc g a) ∧ g (62 + sp_fy g (c_plc g a)) ≤ 0 ∧ c_sS g (sp_fy g (c_plc g a)) = 0 := of_decide_eq_true h
    simp only [← c_plc_eq, ← c_sS_eq] at k
    exact k
  | 7, h =>
    have k : (0 ≤ a ∧ a < g 3) ∧ g (62 + a) ≤ 0 ∧ c_sS g a = 0 := of_decide_eq_true h
    simp only [← c_sS_eq] at k
    exact k
  | 8, h =>
    have k : (0 ≤ a ∧ a < g 3) ∧ c_sS g a = 1 := of_decide_eq_true h
    simp only [← c_sS_eq] at k
    exact k
  | 9, h =>
    have k : 1 ≤ a ∧ a ≤ 48 := of_decide_eq_true h
    exact k
  | _ + 10, h => exact absurd h Bool.false_ne_true
def c_of (κ : Nat) (g : Int → Int) (a b c d e r : Int) : Bool := match κ with
  | 0 => false
  | 1 => false
  | 2 => false
  | 3 => decide (r = 0 ∧ e = -2 ∧ ((0 ≤ a ∧ a < g 1) ∧ (0 ≤ b ∧ b < g 1)) ∧ ¬ (¬ a = b ∧ 1 ≤ c ∧ c ≤ 40 ∧ 0 ≤ d ∧ d < 8))
  | 4 => decide ((e = -1 ∧ r = 0 ∧ ¬ ((0 ≤ a ∧ a < g 3) ∧ (0 ≤ b ∧ b < g 1))) ∨ (e = -3 ∧ r = 0 ∧ ((0 ≤ a ∧ a < g 3) ∧ (0 ≤ b ∧ b < g 1)) ∧ 0 < g (62 + a)) ∨ (e = -4 ∧ ((0 ≤ a ∧ a < g 3) ∧ (0 ≤ b ∧ b < g 1)) ∧ g (62 + a) ≤ 0 ∧ ((r = 1 ∧ c_btw g (g (56 + a)) b = -1) ∨ (r = 2 ∧ ¬ c_btw g (g (56 + a)) b = -1 ∧ c_sS g a = 1) ∨ (r = 3 ∧ ¬ c_btw g (g (56 + a)) b = -1 ∧ c_sS g a = 0 ∧ c_sO g a (c_btw g (g (56 + a)) b) = 0))))
  | 5 => decide ((e = -1 ∧ r = 0 ∧ ¬ (0 ≤ a ∧ a < g 3)) ∨ (e = -5 ∧ r = 0 ∧ (0 ≤ a ∧ a < g 3) ∧ c_plc g b = -1) ∨ (e = -3 ∧ r = 0 ∧ (0 ≤ a ∧ a < g 3) ∧ ¬ c_plc g b = -1 ∧ 10 ≤ g (121 + c_plc g b)) ∨ (e = -4 ∧ (0 ≤ a ∧ a < g 3) ∧ ¬ c_plc g b = -1 ∧ g (121 + c_plc g b) < 10 ∧ ((r = 4 ∧ (0 < g (62 + a) ∨ ¬ g (121 + c_plc g b) = g (56 + a))) ∨ (g (62 + a) ≤ 0 ∧ g (121 + c_plc g b) = g (56 + a) ∧ ((r = 5 ∧ c_sS g a = 1) ∨ (c_sS g a = 0 ∧ ((r = 6 ∧ g (68 + a) < sp_car g a + g (101 + c_plc g b)) ∨ (r = 7 ∧ sp_car g a + g (101 + c_plc g b) ≤ g (68 + a) ∧ g (111 + c_plc g b) = 0))))))))
  | 6 => decide (r = 0 ∧ ((e = -5 ∧ c_plc g a = -1) ∨ (e = -3 ∧ ¬ c_plc g a = -1 ∧ sp_fy g (c_plc g a) < 0) ∨ (e = -4 ∧ ¬ c_plc g a = -1 ∧ 0 ≤ sp_fy g (c_plc g a) ∧ (0 < g (62 + sp_fy g (c_plc g a)) ∨ (g (62 + sp_fy g (c_plc g a)) ≤ 0 ∧ c_sS g (sp_fy g (c_plc g a)) = 1)))))
  | 7 => decide (r = 0 ∧ ((e = -1 ∧ ¬ (0 ≤ a ∧ a < g 3)) ∨ (e = -4 ∧ (0 ≤ a ∧ a < g 3) ∧ (0 < g (62 + a) ∨ (g (62 + a) ≤ 0 ∧ c_sS g a = 1)))))
  | 8 => decide (r = 0 ∧ ((e = -1 ∧ ¬ (0 ≤ a ∧ a < g 3)) ∨ (e = -3 ∧ (0 ≤ a ∧ a < g 3) ∧ c_sS g a = 0)))
  | 9 => false
  | 10 => decide (r = 0 ∧ e = -3 ∧ (0 ≤ a ∧ a < g 2) ∧ 0 < g 3) && c_psg g (g (16 + a)) (g (26 + a)) 0
  | _ => false
theorem c_of_ok {κ : Nat} {g : Int → Int} {a b c d e r : Int} (h : c_of κ g a b c d e r = true) : sp_of κ g a b c d e r := by
  match κ, h with
  | 0, h => exact absurd h Bool.false_ne_true
  | 1, h => exact absurd h Bool.false_ne_true
  | 2, h => exact absurd h Bool.false_ne_true
  | 3, h =>
    have k : r = 0 ∧ e = -2 ∧ ((0 ≤ a ∧ a < g 1) ∧ (0 ≤ b ∧ b < g 1)) ∧ ¬ (¬ a = b ∧ 1 ≤ c ∧ c ≤ 40 ∧ 0 ≤ d ∧ d < 8) := of_decide_eq_true h
    exact ⟨k.1, Or.inr (Or.inl ⟨k.2.1, k.2.2⟩)⟩
  | 4, h =>
    have k : (e = -1 ∧ r = 0 ∧ ¬ ((0 ≤ a ∧ a < g 3) ∧ (0 ≤ b ∧ b < g 1))) ∨ (e = -3 ∧ r = 0 ∧ ((0 ≤ a ∧ a < g 3) ∧ (0 ≤ b ∧ b < g 1)) ∧ 0 < g (62 + a)) ∨ (e = -4 ∧ ((0 ≤ a ∧ a < g 3) ∧ (0 ≤ b ∧ b < g 1)) ∧ g (62 + a) ≤ 0 ∧ ((r = 1 ∧ c_btw g (g (56 + a)) b = -1) ∨ (r = 2 ∧ ¬ c_btw g (g (56 + a)) b = -1 ∧ c_sS g a = 1) ∨ (r = 3 ∧ ¬ c_btw g (g (56 + a)) b = -1 ∧ c_sS g a = 0 ∧ c_sO g a (c_btw g (g (56 + a)) b) = 0))) := of_decide_eq_true h
    simp only [← c_btw_eq, ← c_sS_eq, ← c_sO_eq] at k
    exact k
  | 5, h =>
    have k : (e = -1 ∧ r = 0 ∧ ¬ (0 ≤ a ∧ a < g 3)) ∨ (e = -5 ∧ r = 0 ∧ (0 ≤ a ∧ a < g 3) ∧ c_plc g b = -1) ∨ (e = -3 ∧ r = 0 ∧ (0 ≤ a ∧ a < g 3) ∧ ¬ c_plc g b = -1 ∧ 10 ≤ g (121 + c_plc g b)) ∨ (e = -4 ∧ (0 ≤ a ∧ a < g 3) ∧ ¬ c_plc g b = -1 ∧ g (121 + c_plc g b) < 10 ∧ ((r = 4 ∧ (0 < g (62 + a) ∨ ¬ g (121 + c_plc g b) = g (56 + a))) ∨ (g (62 + a) ≤ 0 ∧ g (121 + c_plc g b) = g (56 + a) ∧ ((r = 5 ∧ c_sS g a = 1) ∨ (c_sS g a = 0 ∧ ((r = 6 ∧ g (68 + a) < sp_car g a + g (101 + c_plc g b)) ∨ (r = 7 ∧ sp_car g a + g (101 + c_plc g b) ≤ g (68 + a) ∧ g (111 + c_plc g b) = 0))))))) := of_decide_eq_true h
    simp only [← c_plc_eq, ← c_sS_eq] at k
    exact k
  | 6, h =>
    have k : r = 0 ∧ ((e = -5 ∧ c_plc g a = -1) ∨ (e = -3 ∧ ¬ c_plc g a = -1 ∧ sp_fy g (c_plc g a) < 0) ∨ (e = -4 ∧ ¬ c_plc g a = -1 ∧ 0 ≤ sp_fy g (c_plc g a) ∧ (0 < g (62 + sp_fy g (c_plc g a)) ∨ (g (62 + sp_fy g (c_plc g a)) ≤ 0 ∧ c_sS g (sp_fy g (c_plc g a)) = 1)))) := of_decide_eq_true h
    simp only [← c_plc_eq, ← c_sS_eq] at k
    exact k
  | 7, h =>
    have k : r = 0 ∧ ((e = -1 ∧ ¬ (0 ≤ a ∧ a < g 3)) ∨ (e = -4 ∧ (0 ≤ a ∧ a < g 3) ∧ (0 < g (62 + a) ∨ (g (62 + a) ≤ 0 ∧ c_sS g a = 1)))) := of_decide_eq_true h
    simp only [← c_sS_eq] at k
    exact k
  | 8, h =>
    have k : r = 0 ∧ ((e = -1 ∧ ¬ (0 ≤ a ∧ a < g 3)) ∨ (e = -3 ∧ (0 ≤ a ∧ a < g 3) ∧ c_sS g a = 0)) := of_decide_eq_true h
    simp only [← c_sS_eq] at k
    exact k
  | 9, h => exact absurd h Bool.false_ne_true
  | 10, h =>
    have k := (Bool.and_eq_true _ _).mp h
    have k1 : r = 0 ∧ e = -3 ∧ (0 ≤ a ∧ a < g 2) ∧ 0 < g 3 := of_decide_eq_true k.1
    exact ⟨k1.1, Or.inr ⟨k1.2.1, k1.2.2.1, ⟨0, Int.le_refl _, k1.2.2.2, c_psg_ok.mp k.2⟩⟩⟩
  | _ + 11, h => exact absurd h Bool.false_ne_true
def c_og (κ : Nat) (g : Int → Int) (a b c d : Int) : Int → Int := match κ with
  | 0 => sp_gCrater g a
  | 1 => sp_gChannel g a b c d
  | 2 => sp_gFerry g a b c
  | 3 => sp_gMoon g a b c d
  | 4 => sp_gSail g a b (c_btw g (g (56 + a)) b)
  | 6 => c_gLand g (c_plc g a)
  | 7 => c_gLoad g a
  | 8 => sp_gRescue g a
  | _ => g
def c_kd (κ : Nat) : Bool := Nat.ble κ 4 || (Nat.beq κ 6 || (Nat.beq κ 7 || Nat.beq κ 8))
theorem c_og_eq {κ : Nat} {g : Int → Int} {a b c d : Int} (h : c_kd κ = true) : sp_og κ g a b c d = c_og κ g a b c d := by
  match κ, h with
  | 0, _ => rfl
  | 1, _ => rfl
  | 2, _ => rfl
  | 3, _ => rfl
  | 4, _ => show sp_gSail g a b (sp_btwF g (g (56 + a)) b) = sp_gSail g a b (c_btw g (g (56 + a)) b); rw [c_btw_eq]
  | 5, h => exact absurd h Bool.false_ne_true
  | 6, _ => show sp_gLand g (sp_plcF g a) = c_gLand g (c_plc g a); rw [c_plc_eq, c_gLand_eq]
  | 7, _ => exact c_gLoad_eq g a
  | 8, _ => rfl
  | _ + 9, h => exact absurd h Bool.false_ne_true
def c_ov (κ : Nat) (g : Int → Int) (a b : Int) : Int := match κ with
  | 0 => g 1
  | 1 => g 2
  | 2 => g 3
  | 3 => g 5
  | 4 => g 0 + g (36 + c_btw g (g (56 + a)) b)
  | 6 => c_vLand g (c_plc g a)
  | 7 => c_nLoad g a
  | 8 => sp_cnt g a (g 4).toNat
  | _ => 0
theorem c_ov_eq {κ : Nat} {g : Int → Int} {a b : Int} (h : c_kd κ = true) : sp_ov κ g a b = c_ov κ g a b := by
  match κ, h with
  | 0, _ => rfl
  | 1, _ => rfl
  | 2, _ => rfl
  | 3, _ => rfl
  | 4, _ => show g 0 + g (36 + sp_btwF g (g (56 + a)) b) = g 0 + g (36 + c_btw g (g (56 + a)) b); rw [c_btw_eq]
  | 5, h => exact absurd h Bool.false_ne_true
  | 6, _ => show sp_vLand g (sp_plcF g a) = c_vLand g (c_plc g a); rw [c_plc_eq, c_vLand_eq]
  | 7, _ => exact c_nLoad_eq g a
  | 8, _ => rfl
  | _ + 9, h => exact absurd h Bool.false_ne_true
/-! commands one after another -/
def c_cg (g : Int → Int) : List (Nat × Int × Int × Int × Int) → Int → Int
  | [] => g
  | c :: r => c_cg (c_og c.1 g c.2.1 c.2.2.1 c.2.2.2.1 c.2.2.2.2) r
def c_co (g : Int → Int) : List (Nat × Int × Int × Int × Int) → Bool
  | [] => true
  | c :: r => c_kd c.1 && (c_oo c.1 g c.2.1 c.2.2.1 c.2.2.2.1 c.2.2.2.2 && c_co (c_og c.1 g c.2.1 c.2.2.1 c.2.2.2.1 c.2.2.2.2) r)
theorem c_co_ok : ∀ {l : List (Nat × Int × Int × Int × Int)} {g : Int → Int}, c_co g l = true → cm_o g l ∧ cm_g g l = c_cg g l := by
  intro l
  induction l with
  | nil => intro g _; exact ⟨True.intro, rfl⟩
  | cons c r ih =>
    intro g h
    have h1 := (Bool.and_eq_true _ _).mp h
    have h2 := (Bool.and_eq_true _ _).mp h1.2
    have h3 := ih h2.2
    have e := c_og_eq (g := g) (a := c.2.1) (b := c.2.2.1) (c := c.2.2.2.1) (d := c.2.2.2.2) h1.1
    refine ⟨⟨c_oo_ok h2.1, ?_⟩, ?_⟩
    · rw [e]
      exact h3.1
    · show cm_g (sp_og c.1 g c.2.1 c.2.2.1 c.2.2.2.1 c.2.2.2.2) r = _
      rw [e]
      exact h3.2
/-! hours on lists -/
def Zr (g : Int → Int) : Prop := ∀ s, ¬ (0 ≤ s ∧ s < 161) → g s = 0
theorem zt_Zr {l : List Int} : Zr (zt l) := fun s h => if_neg h
theorem Zr.tb {g : Int → Int} (h : Zr g) : zt (tb g) = g := by
  funext s
  by_cases k : 0 ≤ s ∧ s < 161
  · exact zt_tb g s k.1 k.2
  · rw [h s k, zt_Zr s k]
theorem Zr.set {g : Int → Int} (h : Zr g) {i v : Int} (hi : 0 ≤ i ∧ i < 161) : Zr (sp_set g i v) := fun s k => by
  show (if s = i then v else g s) = 0
  rw [if_neg (by omega), h s k]
theorem Zr.pha {g : Int → Int} (h : Zr g) (h4 : g 4 ≤ 50) : Zr (sp_pha g) := fun s k => by
  show (if 111 ≤ s ∧ s < 111 + g 4 then (g s + 1) % 8 else g s) = 0
  rw [if_neg (by omega), h s k]
theorem Zr.arr {g : Int → Int} (h : Zr g) {f : Int} (hf : 0 ≤ f ∧ f < 90) : Zr (sp_arr g f) := fun s k => by
  have h2 := h.set (i := 62 + f) (v := 0) (by omega)
  show (if s = 8 then _ else if 131 ≤ s ∧ s < 161 then _ else sp_set g (62 + f) 0 s) = 0
  rw [if_neg (by omega), if_neg (by omega), h2 s k]
theorem Zr.hr {g : Int → Int} (h : Zr g) : ∀ n : Nat, n ≤ 90 → Zr (c_hr g n).1
  | 0, _ => h
  | n + 1, hn => by
    have i := Zr.hr h n (by omega)
    unfold c_hr
    split
    · exact (i.arr (by omega)).set (by omega)
    · exact i
theorem Zr.hour {g : Int → Int} (h : Zr g) (h4 : g 4 ≤ 50) (h3 : g 3 ≤ 90) : Zr (c_hour g).1 := by
  unfold c_hour
  refine Zr.hr ?_ _ (by omega)
  unfold sp_h0
  split
  · refine (h.set (by omega)).pha ?_
    show (if (4 : Int) = 0 then _ else g 4) ≤ 50
    rw [if_neg (by decide)]
    exact h4
  · exact h.set (by omega)
def c_psk (l : List Int) : Nat → Bool
  | 0 => true
  | n + 1 => c_psk l n && decide (zt (c_ps l n).1 4 ≤ 50 ∧ zt (c_ps l n).1 3 ≤ 90)
theorem c_ps_ok {l : List Int} : ∀ {n : Nat}, c_psk l n = true → sp_pass (zt l) n = (zt (c_ps l n).1, (c_ps l n).2)
  | 0, _ => rfl
  | n + 1, h => by
    have h1 := (Bool.and_eq_true _ _).mp h
    have h2 := of_decide_eq_true h1.2
    have i := c_ps_ok h1.1
    unfold sp_pass
    rw [i]
    show ((sp_hour (zt (c_ps l n).1)).1, (c_ps l n).2 + (sp_hour (zt (c_ps l n).1)).2) = (zt (tb (c_hour (zt (c_ps l n).1)).1), (c_ps l n).2 + (c_hour (zt (c_ps l n).1)).2)
    have e : sp_hour (zt (c_ps l n).1) = c_hour (zt (c_ps l n).1) := by
      unfold sp_hour c_hour
      exact c_hr_eq _ _
    rw [e, (zt_Zr.hour h2.1 h2.2).tb]
/-- an office's state counts on its 161 numbers alone -/
theorem Off.ew {b sb : Nat} {M : mw_Mem} {w : of_S} {B : Int} {g' : Int → Int} (h : Off b sb M w B) (e : sp_ew w.1.1 g') : Off b sb M ((g', w.1.2), w.2) B := by
  obtain ⟨J, L, W, hP, r⟩ := h
  exact ⟨J, L, W, ⟨⟨hP.1.1.ew e, hP.1.2⟩, hP.2⟩, r⟩
