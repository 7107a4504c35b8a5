/-! the words of the document, so that they can be run -/
def c_con (g : Int → Int) (a b c : Int) : Bool := decide ((g (16 + c) = a ∧ g (26 + c) = b) ∨ (g (16 + c) = b ∧ g (26 + c) = a))
theorem c_con_ok {g : Int → Int} {a b c : Int} : c_con g a b c = true ↔ sp_con g a b c := decide_eq_true_iff
def c_stk (g : Int → Int) (f : Int) : Bool := decide (¬ 0 < g (62 + f) ∧ g (10 + g (56 + f)) + sp_tide (g 0) < g (65 + f))
theorem c_stk_ok {g : Int → Int} {f : Int} : c_stk g f = true ↔ sp_stk g f := decide_eq_true_iff
def c_opn (g : Int → Int) (f c h : Int) : Bool := decide (g (65 + f) ≤ g (46 + c) + sp_tide h)
theorem c_opn_ok {g : Int → Int} {f c h : Int} : c_opn g f c h = true ↔ sp_opn g f c h := decide_eq_true_iff
def c_can (g : Int → Int) (f p : Int) : Bool := decide (0 ≤ p ∧ p < g 4 ∧ g (121 + p) = g (56 + f) ∧ ¬ g (111 + p) = 0)
theorem c_can_ok {g : Int → Int} {f p : Int} : c_can g f p = true ↔ sp_can g f p := decide_eq_true_iff
def c_psg (g : Int → Int) (a b f : Int) : Bool := decide (0 < g (62 + f) ∧ ((g (59 + f) = a ∧ g (56 + f) = b) ∨ (g (59 + f) = b ∧ g (56 + f) = a)))
theorem c_psg_ok {g : Int → Int} {a b f : Int} : c_psg g a b f = true ↔ sp_psg g a b f := decide_eq_true_iff
def c_find (P : Int → Bool) (n : Nat) : Int := match (List.range n).find? (fun i : Nat => P (i : Int)) with
  | some i => (i : Int)
  | none => -1
theorem c_find_ok {Q : Int → Prop} {P : Int → Bool} (hP : ∀ i, P i = true ↔ Q i) {n : Int} : sp_first Q n (c_find P n.toNat) := by
  unfold c_find
  cases e : (List.range n.toNat).find? (fun i : Nat => P (i : Int)) with
  | none =>
    refine Or.inl ⟨rfl, fun i i0 i1 q => ?_⟩
    have h := List.find?_eq_none.mp e i.toNat (List.mem_range.mpr (by omega))
    rw [show ((i.toNat : Nat) : Int) = i by omega] at h
    exact h ((hP i).mpr q)
  | some k =>
    have h1 := List.find?_some e
    have h2 := List.mem_range.mp (List.mem_of_find?_eq_some e)
    refine Or.inr ⟨Int.natCast_nonneg _, by show (k : Int) < n; omega, (hP _).mp h1, fun i i0 i1 q => ?_⟩
    have i1 : i < (k : Int) := i1
    obtain ⟨as, bs, hl, hn⟩ := (List.find?_eq_some_iff_append.mp e).2
    have hm : i.toNat ∈ as := by
      have hk : as.length = k := by
        have := congrArg (fun l : List Nat => l[as.length]?) hl
        rw [List.getElem?_append_right (Nat.le_refl _), Nat.sub_self, List.getElem?_cons_zero] at this
        have := List.getElem?_eq_some_iff.mp this
        obtain ⟨h9, h8⟩ := this
        rw [List.getElem_range] at h8
        exact h8
      have hi : (List.range n.toNat)[i.toNat]? = some i.toNat := List.getElem?_range (by omega)
      rw [hl, List.getElem?_append_left (by omega)] at hi
      exact List.mem_of_getElem? hi
    have := hn _ hm
    rw [show ((i.toNat : Nat) : Int) = i by omega, (hP i).mpr q] at this
    cases this
def c_btw (g : Int → Int) (a b : Int) : Int := c_find (fun c => c_con g a b c) (g 2).toNat
theorem c_btw_eq (g : Int → Int) (a b : Int) : sp_btwF g a b = c_btw g a b := (sp_btwF_eq (c_find_ok (fun _ => c_con_ok))).symm
def c_plc (g : Int → Int) (m : Int) : Int := c_find (fun p => decide (g (71 + p) = m)) (g 4).toNat
theorem c_plc_eq (g : Int → Int) (m : Int) : sp_plcF g m = c_plc g m := (sp_plcF_eq (c_find_ok (fun _ => decide_eq_true_iff))).symm
theorem c_b_eq {P : Prop} {b : Bool} (e : b = true ↔ P) : sp_b P = if b = true then 1 else 0 := by
  by_cases h : P
  · rw [sp_bT h, if_pos (e.mpr h)]
  · rw [sp_bF h, if_neg (fun z => h (e.mp z))]
def c_sS (g : Int → Int) (f : Int) : Int := if c_stk g f = true then 1 else 0
theorem c_sS_eq (g : Int → Int) (f : Int) : sp_sS g f = c_sS g f := c_b_eq c_stk_ok
def c_sO (g : Int → Int) (f c : Int) : Int := if c_opn g f c (g 0) = true then 1 else 0
theorem c_sO_eq (g : Int → Int) (f c : Int) : sp_sO g f c = c_sO g f c := c_b_eq c_opn_ok
def c_stp (g : Int → Int) (f : Int) : Int → Int := sp_set (sp_arr g f) 9 (g 9 + (if c_stk (sp_arr g f) f = true then 1 else 0))
theorem c_stp_eq (g : Int → Int) (f : Int) : sp_stp g f = c_stp g f := by
  unfold sp_stp c_stp
  rw [c_b_eq c_stk_ok]
def c_hr (g : Int → Int) : Nat → (Int → Int) × Int
  | 0 => (g, 0)
  | n + 1 => if 0 < (c_hr g n).1 (62 + n) ∧ (c_hr g n).1 (62 + n) = (c_hr g n).1 0 then (c_stp (c_hr g n).1 n, (c_hr g n).2 + 1) else c_hr g n
theorem c_hr_eq (g : Int → Int) : ∀ n : Nat, sp_hr g n = c_hr g n
  | 0 => rfl
  | n + 1 => by
    unfold sp_hr c_hr
    rw [c_hr_eq g n, c_stp_eq]
def c_hour (g : Int → Int) : (Int → Int) × Int := c_hr (sp_h0 g) (g 3).toNat
def c_T0 (g : Int → Int) (i j : Int) : Int := if i = j then 0 else if c_btw g i j = -1 then 10000 else g (36 + c_btw g i j)
def c_T (g : Int → Int) : Nat → Int → Int → Int
  | 0 => c_T0 g
  | m + 1 => fun i j => if c_T g m i m + c_T g m m j < c_T g m i j then c_T g m i m + c_T g m m j else c_T g m i j
theorem c_T_eq (g : Int → Int) : ∀ n : Nat, sp_T g n = c_T g n
  | 0 => by
    funext i j
    show sp_T0 g i j = c_T0 g i j
    unfold sp_T0 c_T0
    rw [c_btw_eq]
  | n + 1 => by
    funext i j
    unfold sp_T c_T
    rw [c_T_eq g n]
def c_D (g : Int → Int) (i j : Int) : Int := c_T g 6 i j
theorem c_D_eq (g : Int → Int) (i j : Int) : sp_D g i j = c_D g i j := by
  unfold sp_D c_D
  rw [c_T_eq]
def c_fare (g : Int → Int) (p : Int) : Int := if c_D g (g (81 + p)) (g (91 + p)) = 10000 then 0 else c_D g (g (81 + p)) (g (91 + p)) * (sp_light (g (111 + p)) + 1)
theorem c_fare_eq (g : Int → Int) : sp_fare g = c_fare g := by
  funext p
  unfold sp_fare c_fare
  rw [c_D_eq]
def c_E (C : Int → Bool) (w v : Int → Int) : Nat → Int → Int → Int × (Int → Bool)
  | 0, _, _ => (0, fun _ => false)
  | k + 1, p, r => if C p = true ∧ w p ≤ r ∧ (c_E C w v k (p + 1) r).1 ≤ v p + (c_E C w v k (p + 1) (r - w p)).1 then (v p + (c_E C w v k (p + 1) (r - w p)).1, fun x => decide (x = p) || (c_E C w v k (p + 1) (r - w p)).2 x) else c_E C w v k (p + 1) r
theorem c_E_eq {C : Int → Prop} {D : Int → Bool} (h : ∀ p, C p ↔ D p = true) {w v : Int → Int} : ∀ {k : Nat} {p r : Int}, sp_E C w v k p r = ((c_E D w v k p r).1, fun x => (c_E D w v k p r).2 x = true)
  | 0, _, _ => by
    unfold sp_E c_E
    refine Prod.ext rfl ?_
    funext x
    simp
  | k + 1, p, r => by
    have i1 := c_E_eq h (w := w) (v := v) (k := k) (p := p + 1) (r := r)
    have i2 := c_E_eq h (w := w) (v := v) (k := k) (p := p + 1) (r := r - w p)
    by_cases q : C p ∧ w p ≤ r ∧ (sp_E C w v k (p + 1) r).1 ≤ v p + (sp_E C w v k (p + 1) (r - w p)).1
    · rw [sp_E_take q]
      have q' : D p = true ∧ w p ≤ r ∧ (c_E D w v k (p + 1) r).1 ≤ v p + (c_E D w v k (p + 1) (r - w p)).1 := by
        rw [i1, i2] at q
        exact ⟨(h p).mp q.1, q.2⟩
      rw [c_E, if_pos q', i2]
      refine Prod.ext rfl ?_
      funext x
      simp
    · rw [sp_E_skip q, i1]
      have q' : ¬ (D p = true ∧ w p ≤ r ∧ (c_E D w v k (p + 1) r).1 ≤ v p + (c_E D w v k (p + 1) (r - w p)).1) := by
        rw [i1, i2] at q
        exact fun z => q ⟨(h p).mpr z.1, z.2⟩
      rw [c_E, if_neg q']
def c_best (g : Int → Int) (f : Int) : Int × (Int → Bool) := c_E (fun p => c_can g f p) (sp_wt g) (c_fare g) (g 4).toNat 0 (g (68 + f) - sp_car g f)
theorem c_best_eq (g : Int → Int) (f : Int) : sp_best g f = ((c_best g f).1, fun x => (c_best g f).2 x = true) := by
  unfold sp_best c_best
  rw [c_fare_eq]
  exact c_E_eq (fun _ => c_can_ok.symm)
def c_gLoad (g : Int → Int) (f : Int) : Int → Int := fun s => if 121 ≤ s ∧ (c_best g f).2 (s - 121) = true then 10 + f else g s
theorem c_gLoad_eq (g : Int → Int) (f : Int) : sp_gLoad g f = c_gLoad g f := by
  funext s
  have e : sp_isB g f s ↔ 121 ≤ s ∧ (c_best g f).2 (s - 121) = true := by
    unfold sp_isB
    rw [c_best_eq]
  unfold sp_gLoad c_gLoad
  by_cases h : sp_isB g f s
  · rw [if_pos h, if_pos (e.mp h)]
  · rw [if_neg h, if_neg (fun z => h (e.mpr z))]
def c_nLoad (g : Int → Int) (f : Int) : Int := sp_sum (fun p => if (c_best g f).2 p = true then 1 else 0) (g 4).toNat
theorem c_nLoad_eq (g : Int → Int) (f : Int) : sp_nLoad g f = c_nLoad g f := by
  unfold sp_nLoad c_nLoad
  refine sp_sum_congr (fun p _ _ => ?_)
  rw [c_best_eq]
  exact c_b_eq Iff.rfl
def c_gLand (g : Int → Int) (p : Int) : Int → Int := if g (56 + sp_fy g p) = g (91 + p) then sp_set (sp_drp (sp_set (sp_gAsh g p) 6 (g 6 + c_fare g p)) 71 6 p) 4 (g 4 - 1) else sp_gAsh g p
theorem c_gLand_eq (g : Int → Int) (p : Int) : sp_gLand g p = c_gLand g p := by
  unfold sp_gLand c_gLand sp_gGone sp_gPaid
  rw [c_fare_eq]
def c_vLand (g : Int → Int) (p : Int) : Int := if g (56 + sp_fy g p) = g (91 + p) then c_fare g p else 0
theorem c_vLand_eq (g : Int → Int) (p : Int) : sp_vLand g p = c_vLand g p := by
  unfold sp_vLand c_vLand
  rw [c_fare_eq]
/-- states as lists -/
def zt (l : List Int) : Int → Int := fun s => if 0 ≤ s ∧ s < 161 then l.getD s.toNat 0 else 0
def tb (g : Int → Int) : List Int := (List.range 161).map (fun k : Nat => g (k : Int))
theorem zt_tb (g : Int → Int) : sp_ew g (zt (tb g)) := by
  intro s s0 s1
  unfold zt tb
  rw [if_pos ⟨s0, s1⟩, List.getD_eq_getElem?_getD, List.getElem?_map, List.getElem?_range (by omega)]
  show g ((s.toNat : Nat) : Int) = g s
  rw [show ((s.toNat : Nat) : Int) = s by omega]
/-- hours let pass, from lists -/
def c_ps (l : List Int) : Nat → List Int × Int
  | 0 => (l, 0)
  | n + 1 => (tb (c_hour (zt (c_ps l n).1)).1, (c_ps l n).2 + (c_hour (zt (c_ps l n).1)).2)
