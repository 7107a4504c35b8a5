/-! what a text is read as depends on its letters only -/
section
variable {T T' : Int → Int} {n : Int}
theorem cg_dg (h : ∀ s, 0 ≤ s → s < n → T s = T' s) {s : Int} (s0 : 0 ≤ s) : sp_dg T n s ↔ sp_dg T' n s := by
  unfold sp_dg
  by_cases z : s < n
  · rw [h s s0 z]
  · exact ⟨fun q => absurd q.1 z, fun q => absurd q.1 z⟩
theorem cg_nx (h : ∀ s, 0 ≤ s → s < n → T s = T' s) {c s : Int} (s0 : 0 ≤ s) : sp_nx T n c s = sp_nx T' n c s := by
  have d0 := cg_dg h s0
  have d1 := cg_dg h (s := s + 1) (by omega)
  have e : (s < n ∧ T s = c) ↔ (s < n ∧ T' s = c) := by
    by_cases z : s < n
    · rw [h s s0 z]
    · exact ⟨fun q => absurd q.1 z, fun q => absurd q.1 z⟩
  unfold sp_nx
  simp only [d0, d1, e]
theorem cg_vl (h : ∀ s, 0 ≤ s → s < n → T s = T' s) {c s : Int} (s0 : 0 ≤ s) (s1 : s < n) : sp_vl T n c s = sp_vl T' n c s := by
  unfold sp_vl
  have d1 := cg_dg h (s := s + 1) (by omega)
  rw [h s s0 s1]
  by_cases z : c = 42 ∧ sp_dg T n (s + 1)
  · rw [if_pos z, if_pos ⟨z.1, d1.mp z.2⟩, h (s + 1) (by omega) z.2.1]
  · rw [if_neg z, if_neg (fun q => z ⟨q.1, d1.mpr q.2⟩)]
theorem cg_st (h : ∀ s, 0 ≤ s → s < n → T s = T' s) {c : Int} {P : Int × Int} (s0 : 0 ≤ P.1) : sp_st T n c P = sp_st T' n c P ∧ 0 ≤ (sp_st T n c P).1 := by
  have e := cg_nx h (c := c) s0
  refine ⟨by unfold sp_st; rw [e], ?_⟩
  unfold sp_st
  split
  · rename_i q
    have := sp_nx_at s0 q.2
    show 0 ≤ sp_nx T n c P.1
    omega
  · exact s0
theorem cg_dV (h : ∀ s, 0 ≤ s → s < n → T s = T' s) {c : Int} {P : Int × Int} (s0 : 0 ≤ P.1) : sp_dV T n c P = sp_dV T' n c P := by
  have e := cg_nx h (c := c) s0
  unfold sp_dV
  rw [← e]
  split
  · rename_i q
    exact cg_vl h s0 (sp_nx_at s0 q.2).1
  · rfl
theorem cg_fo (h : ∀ s, 0 ≤ s → s < n → T s = T' s) : ∀ {r : List Int} {P : Int × Int}, 0 ≤ P.1 → sp_fo T n r P = sp_fo T' n r P
  | [], _, _ => rfl
  | c :: r, P, s0 => by
    have e := cg_st h (c := c) s0
    rw [sp_fo, sp_fo, ← e.1]
    exact cg_fo h e.2
theorem cg_vs (h : ∀ s, 0 ≤ s → s < n → T s = T' s) : ∀ {r : List Int} {P : Int × Int}, 0 ≤ P.1 → sp_vs T n r P = sp_vs T' n r P
  | [], _, _ => rfl
  | c :: r, P, s0 => by
    have e := cg_st h (c := c) s0
    have d := cg_dV h (c := c) s0
    have ih := cg_vs h (r := r) (P := sp_st T n c P) e.2
    rw [sp_vs, sp_vs, ← e.1, d, ih]
theorem cg_sg (h : ∀ s, 0 ≤ s → s < n → T s = T' s) {s : Int} (s0 : 0 ≤ s) : sp_sg T n s = sp_sg T' n s := by
  unfold sp_sg
  split
  · rename_i z
    exact h s s0 z
  · rfl
theorem cg_kd (h : ∀ s, 0 ≤ s → s < n → T s = T' s) {s : Int} (s0 : 0 ≤ s) : sp_kd T n s = sp_kd T' n s := by
  unfold sp_kd
  rw [cg_sg h s0, cg_sg h (s := s + 1) (by omega)]
theorem cg_rd (h : ∀ s, 0 ≤ s → s < n → T s = T' s) {s : Int} (s0 : 0 ≤ s) : sp_rd T n s = sp_rd T' n s := by
  unfold sp_rd
  rw [cg_kd h s0, cg_fo h (P := (s, 0)) s0]
theorem cg_pl (h : ∀ s, 0 ≤ s → s < n → T s = T' s) : ∀ {f : Nat} {s : Int}, 0 ≤ s → s ≤ n → sp_pl T n f s = sp_pl T' n f s ∧ ∀ x ∈ (sp_pl T n f s).1, 0 ≤ x
  | 0, s, s0, _ => ⟨rfl, fun x hx => by cases hx⟩
  | f + 1, s, s0, s1 => by
    have e := cg_rd h s0
    have le := sp_rd_le (T := T) s0 s1
    by_cases z : (sp_rd T n s).1 < n
    · have ih := cg_pl h (f := f) (s := (sp_rd T n s).1 + 1) (by omega) (by omega)
      have eT := h (sp_rd T n s).1 (by omega) z
      refine ⟨?_, ?_⟩
      · rw [sp_pl, sp_pl, ← e, ih.1, eT]
      · rw [sp_pl]
        intro x hx
        split at hx
        · cases hx
        · split at hx
          · rcases List.mem_cons.mp hx with rfl | hx
            · exact s0
            · exact ih.2 x hx
          · rcases List.mem_cons.mp hx with rfl | hx
            · exact s0
            · cases hx
    · refine ⟨?_, ?_⟩
      · rw [sp_pl, sp_pl, ← e, if_neg z, if_neg z]
      · rw [sp_pl, if_neg z]
        intro x hx
        split at hx
        · cases hx
        · rcases List.mem_cons.mp hx with rfl | hx
          · exact s0
          · cases hx
theorem cg_getD {l : List Int} (h : ∀ x ∈ l, 0 ≤ x) (i : Nat) : 0 ≤ l.getD i 0 := by
  rw [List.getD_eq_getElem?_getD]
  cases e : l[i]? with
  | none => exact Int.le_refl _
  | some x => exact h x (List.mem_of_getElem? e)
theorem cg_ck (n0 : 0 ≤ n) (h : ∀ s, 0 ≤ s → s < n → T s = T' s) (i : Nat) : sp_ck T n i = sp_ck T' n i := by
  have p := cg_pl h (f := 10) (s := 0) (Int.le_refl _) n0
  unfold sp_ck
  rw [← p.1, cg_kd h (cg_getD p.2 i)]
theorem cg_cv (n0 : 0 ≤ n) (h : ∀ s, 0 ≤ s → s < n → T s = T' s) (i j : Nat) : sp_cv T n i j = sp_cv T' n i j := by
  have p := cg_pl h (f := 10) (s := 0) (Int.le_refl _) n0
  unfold sp_cv sp_pv
  rw [← p.1, cg_kd h (cg_getD p.2 i), cg_vs h (P := ((sp_pl T n 10 0).1.getD i 0, 0)) (cg_getD p.2 i)]
/-- a text of written letters -/
def tx (l : List Int) : Int → Int := fun s => l.getD s.toNat 0
theorem tx_eq {l : List Int} {q : Int × (Int → Int)} {f : Nat → Int} (q0 : q.1 = 0) (hf : ∀ k, k < l.length → f k = l.getD k 0) : (tx_put q f l.length).1 = l.length ∧ ∀ s : Int, 0 ≤ s → s < (l.length : Int) → (tx_put q f l.length).2 s = tx l s := by
  unfold tx_put
  refine ⟨by rw [q0]; exact Int.zero_add _, fun s s0 s1 => ?_⟩
  show (if q.1 ≤ s ∧ s < q.1 + (l.length : Int) then f (s - q.1).toNat else q.2 s) = _
  rw [q0, if_pos (by omega), Int.sub_zero, hf _ (by omega)]
  rfl
/-- the commands that a text is: kinds and values; where it goes wrong -/
def tx_cm (l : List Int) : List (Nat × Int × Int × Int × Int) × Int := ((List.range (sp_pl (tx l) l.length 10 0).1.length).map (fun i => (sp_ck (tx l) l.length i, sp_cv (tx l) l.length i 0, sp_cv (tx l) l.length i 1, sp_cv (tx l) l.length i 2, sp_cv (tx l) l.length i 3)), (sp_pl (tx l) l.length 10 0).2)
/-- the commands one after another -/
noncomputable def cm_g (g : Int → Int) : List (Nat × Int × Int × Int × Int) → Int → Int
  | [] => g
  | c :: r => cm_g (sp_og c.1 g c.2.1 c.2.2.1 c.2.2.2.1 c.2.2.2.2) r
def cm_o (g : Int → Int) : List (Nat × Int × Int × Int × Int) → Prop
  | [] => True
  | c :: r => sp_oo c.1 g c.2.1 c.2.2.1 c.2.2.2.1 c.2.2.2.2 ∧ cm_o (sp_og c.1 g c.2.1 c.2.2.1 c.2.2.2.1 c.2.2.2.2) r
theorem cm_g_app {g : Int → Int} : ∀ {a b : List (Nat × Int × Int × Int × Int)}, cm_g g (a ++ b) = cm_g (cm_g g a) b := by
  intro a
  induction a generalizing g with
  | nil => intro b; rfl
  | cons c r ih => intro b; exact ih
theorem cm_o_app {g : Int → Int} : ∀ {a b : List (Nat × Int × Int × Int × Int)}, cm_o g (a ++ b) ↔ cm_o g a ∧ cm_o (cm_g g a) b := by
  intro a
  induction a generalizing g with
  | nil => intro b; exact ⟨fun h => ⟨True.intro, h⟩, fun h => h.2⟩
  | cons c r ih =>
    intro b
    constructor
    · intro h
      exact ⟨⟨h.1, (ih.mp h.2).1⟩, (ih.mp h.2).2⟩
    · intro h
      exact ⟨h.1.1, ih.mpr ⟨h.1.2, h.2⟩⟩
end
section
variable {w : of_S} {l : List Int} {cs : List (Nat × Int × Int × Int × Int)}
theorem tx_run (ht : w.2.2.1.1 = l.length) (hT : ∀ s : Int, 0 ≤ s → s < (l.length : Int) → w.2.2.1.2 s = tx l s) {p : Int} (hc : tx_cm l = (cs, p)) : (sp_pl w.2.2.1.2 w.2.2.1.1 10 0).2 = p ∧ (sp_pl w.2.2.1.2 w.2.2.1.1 10 0).1.length = cs.length ∧ (∀ i, i < cs.length → sp_sq w.2.2.1.2 w.2.2.1.1 w.1.1 i = cm_g w.1.1 (cs.take i)) ∧ sp_sq w.2.2.1.2 w.2.2.1.1 w.1.1 cs.length = cm_g w.1.1 cs ∧ ∀ i c, cs[i]? = some c → sp_ck w.2.2.1.2 w.2.2.1.1 i = c.1 ∧ sp_cv w.2.2.1.2 w.2.2.1.1 i 0 = c.2.1 ∧ sp_cv w.2.2.1.2 w.2.2.1.1 i 1 = c.2.2.1 ∧ sp_cv w.2.2.1.2 w.2.2.1.1 i 2 = c.2.2.2.1 ∧ sp_cv w.2.2.1.2 w.2.2.1.1 i 3 = c.2.2.2.2 := by
  have n0 : (0 : Int) ≤ (l.length : Int) := Int.natCast_nonneg _
  rw [ht]
  have e := (cg_pl hT (f := 10) (s := 0) (Int.le_refl _) n0).1
  unfold tx_cm at hc
  have h1 := congrArg Prod.fst hc
  have h2 := congrArg Prod.snd hc
  dsimp only at h1 h2
  have hl : (sp_pl (tx l) l.length 10 0).1.length = cs.length := by
    rw [← h1, List.length_map, List.length_range]
  have hi : ∀ i c, cs[i]? = some c → sp_ck w.2.2.1.2 l.length i = c.1 ∧ sp_cv w.2.2.1.2 l.length i 0 = c.2.1 ∧ sp_cv w.2.2.1.2 l.length i 1 = c.2.2.1 ∧ sp_cv w.2.2.1.2 l.length i 2 = c.2.2.2.1 ∧ sp_cv w.2.2.1.2 l.length i 3 = c.2.2.2.2 := fun i c h => by
    rw [← h1, List.getElem?_map] at h
    cases q : (List.range (sp_pl (tx l) l.length 10 0).1.length)[i]? with
    | none => rw [q] at h; cases h
    | some j =>
      rw [q] at h
      have hj : j = i := by
        have := List.getElem?_eq_some_iff.mp q
        obtain ⟨h9, h8⟩ := this
        rw [List.getElem_range] at h8
        exact h8.symm
      subst hj
      cases h
      exact ⟨cg_ck n0 hT j, cg_cv n0 hT j 0, cg_cv n0 hT j 1, cg_cv n0 hT j 2, cg_cv n0 hT j 3⟩
  have hs : ∀ i, i ≤ cs.length → sp_sq w.2.2.1.2 l.length w.1.1 i = cm_g w.1.1 (cs.take i) := by
    intro i
    induction i with
    | zero => intro _; rfl
    | succ i ih =>
      intro hi9
      obtain ⟨c, hc9⟩ : ∃ c, cs[i]? = some c := ⟨cs[i], List.getElem?_eq_getElem (by omega)⟩
      have k := hi i c hc9
      rw [List.take_succ, hc9, Option.toList_some, cm_g_app]
      show sp_og _ _ _ _ _ _ = sp_og _ _ _ _ _ _
      rw [k.1, k.2.1, k.2.2.1, k.2.2.2.1, k.2.2.2.2, ih (by omega)]
  refine ⟨by rw [e]; exact h2, by rw [e]; exact hl, fun i hi9 => hs i (by omega), ?_, hi⟩
  have := hs cs.length (Nat.le_refl _)
  rw [List.take_length] at this
  exact this
/-- a text that is carried out -/
theorem o_runS (ht : w.2.2.1.1 = l.length) (hT : ∀ s : Int, 0 ≤ s → s < (l.length : Int) → w.2.2.1.2 s = tx l s) (hc : tx_cm l = (cs, -1)) (ho : cm_o w.1.1 cs) : of_call d_X11_run [] w (of_v (.inr (cs.length : Int))) ((of_ok w (cm_g w.1.1 cs)).1, w.2.1, (0, w.2.2.1.2), w.2.2.2) 2200 := by
  obtain ⟨h1, h2, h3, h4, h5⟩ := tx_run ht hT hc
  have hco : ∀ j, j < cs.length → sp_co w.2.2.1.2 w.2.2.1.1 w.1.1 j := fun j hj => by
    obtain ⟨c, hc9⟩ : ∃ c, cs[j]? = some c := ⟨cs[j], List.getElem?_eq_getElem hj⟩
    have k := h5 j c hc9
    unfold sp_co
    rw [k.1, k.2.1, k.2.2.1, k.2.2.2.1, k.2.2.2.2, h3 j hj]
    have e : cs = cs.take j ++ c :: cs.drop (j + 1) := by
      obtain ⟨hj9, rfl⟩ := List.getElem?_eq_some_iff.mp hc9
      rw [List.getElem_cons_drop, List.take_append_drop]
    rw [e] at ho
    exact (cm_o_app.mp ho).2.1
  refine o_run (fun q => absurd h1 q) (fun _ i e r hi hb hf => ?_) (fun _ _ => ?_)
  · rw [h2] at hi
    exact (op_excl hf (hco i hi)).elim
  · rw [h2, h4]
    exact ⟨rfl, rfl⟩
/-- a text whose command behind a fails -/
theorem o_runF {a b : List (Nat × Int × Int × Int × Int)} {c : Nat × Int × Int × Int × Int} {e r : Int} (ht : w.2.2.1.1 = l.length) (hT : ∀ s : Int, 0 ≤ s → s < (l.length : Int) → w.2.2.1.2 s = tx l s) (hc : tx_cm l = (a ++ c :: b, -1)) (ho : cm_o w.1.1 a) (hf : sp_of c.1 (cm_g w.1.1 a) c.2.1 c.2.2.1 c.2.2.2.1 c.2.2.2.2 e r) : of_call d_X11_run [] w (of_v (.inl 2)) (w.1, ((if r = 0 then w.2.1.1 else r), w.2.1.2.1, (a.length : Int)), (0, w.2.2.1.2), w.2.2.2) 2200 := by
  obtain ⟨h1, h2, h3, h4, h5⟩ := tx_run ht hT hc
  have lt : a.length < (a ++ c :: b).length := by
    rw [List.length_append, List.length_cons]
    omega
  have hco : ∀ j, j < a.length → sp_co w.2.2.1.2 w.2.2.1.1 w.1.1 j := fun j hj => by
    obtain ⟨c9, hc9⟩ : ∃ c9, a[j]? = some c9 := ⟨a[j], List.getElem?_eq_getElem hj⟩
    have k := h5 j c9 (by rw [List.getElem?_append_left hj]; exact hc9)
    unfold sp_co
    rw [k.1, k.2.1, k.2.2.1, k.2.2.2.1, k.2.2.2.2, h3 j (by omega), List.take_append_of_le_length (by omega)]
    have e9 : a = a.take j ++ c9 :: a.drop (j + 1) := by
      obtain ⟨hj9, rfl⟩ := List.getElem?_eq_some_iff.mp hc9
      rw [List.getElem_cons_drop, List.take_append_drop]
    rw [e9] at ho
    exact (cm_o_app.mp ho).2.1
  have kf := h5 a.length c (by rw [List.getElem?_append_right (Nat.le_refl _), Nat.sub_self]; rfl)
  have hcf : sp_cf w.2.2.1.2 w.2.2.1.1 w.1.1 a.length e r := by
    unfold sp_cf
    rw [kf.1, kf.2.1, kf.2.2.1, kf.2.2.2.1, kf.2.2.2.2, h3 a.length lt, List.take_left]
    exact hf
  refine o_run (fun q => absurd h1 q) (fun _ i e9 r9 hi hb hf9 => ?_) (fun _ hb => ?_)
  · obtain ⟨rfl, rfl, rfl⟩ := sp_cf_uniq hf9 hb hcf hco
    exact ⟨rfl, rfl⟩
  · exact (op_excl hcf (hb a.length (by rw [h2]; exact lt))).elim
/-- a malformed text -/
theorem o_runE {p : Int} (ht : w.2.2.1.1 = l.length) (hT : ∀ s : Int, 0 ≤ s → s < (l.length : Int) → w.2.2.1.2 s = tx l s) (hc : (tx_cm l).2 = p) (hp : ¬ p = -1) : of_call d_X11_run [] w (of_v (.inl 1)) (w.1, (w.2.1.1, p, w.2.1.2.2), (0, w.2.2.1.2), w.2.2.2) 2200 := by
  obtain ⟨h1, h2, h3, h4, h5⟩ := tx_run ht hT (cs := (tx_cm l).1) (p := p) (by rw [← hc])
  refine o_run (fun q => ?_) (fun q => absurd (h1.symm.trans q) hp) (fun q => absurd (h1.symm.trans q) hp)
  rw [h1]
  exact ⟨rfl, rfl⟩
end
