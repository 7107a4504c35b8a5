/-! ===== THE ABSTRACT MACHINE IS THE MACHINE: its memory against the heap ===== -/
/-- B: where the law's own cells begin; D: the classes; the classes of the array kinds; where old things lie -/
abbrev mw_G : Type := Nat × va_G × (Nat → ClassId) × (Nat → Nat) × (Nat × (Nat → Int32))
def mw_rho (G : mw_G) (a : Nat) : Nat := if a < 1000000 then G.1 + a else if a < 2000000 then G.2.2.2.1 a else G.1 + (a - 1000000)
/-- cells that a method leaves alone -/
def mw_prot (G : mw_G) (q : Nat) : Prop := G.2.2.2.1 (2000000 + q) = 1
/-- cells that a method may write -/
def mw_A (G : mw_G) (q : Nat) : Prop := G.1 ≤ q ∧ ¬ mw_prot G q
/-- what a static of the JDK holds that nobody uses: null or a reference -/
def mw_fm (G : mw_G) : Value := if G.2.2.2.1 1000300 = 0 then .null else .ref (G.2.2.2.1 1000301)
theorem mw_fm_cat (G : mw_G) : (mw_fm G).category = 1 := by
  unfold mw_fm
  split <;> rfl
def mw_tr (G : mw_G) (v : Value) : Value := match v with
  | .ref a => .ref (mw_rho G a)
  | .int x => .int x
  | .long x => .long x
  | .float x => .float x
  | .double x => .double x
  | .null => .null
  | .retAddr _ => mw_fm G
theorem mw_tr_cat (G : mw_G) (v : Value) : (mw_tr G v).category = v.category := by
  cases v <;> first | rfl | exact mw_fm_cat G
theorem mw_tr_rv (G : mw_G) (r : Option Nat) : mw_tr G (mw_rv r) = va_rf (r.map (mw_rho G)) := by cases r <;> rfl
def mw_fv (G : mw_G) (M : mw_Mem) (k a j : Nat) : Value := mw_tr G (mw_gv (mw_tag k j) M a j)
def mw_cell (G : mw_G) (M : mw_Mem) (k n a : Nat) : va_E := match k with
  | 20 => .inl (G.2.2.1 0, n, .inl (M.1 a))
  | 21 => .inl (G.2.2.1 1, n, .inl (M.1 a))
  | 22 => .inr (999, [])
  | 23 => .inr (999, [])
  | 24 => .inl (G.2.2.1 4, n, .inl (M.1 a))
  | 25 => .inl (G.2.2.1 5, n, .inr (.inr (.inr (.inr (fun j => (M.2.2.2.1 a j).map (mw_rho G))))))
  | 26 => .inl (G.2.2.1 6, n, .inr (.inr (.inr (.inr (fun j => (M.2.2.2.1 a j).map (mw_rho G))))))
  | 27 => .inl (G.2.2.1 7, n, .inr (.inr (.inr (.inr (fun j => (M.2.2.2.1 a j).map (mw_rho G))))))
  | k => .inr (k, (List.range (((vwCl[k]?).map (fun r => r.2.2)).getD 0)).map (mw_fv G M k a))
/-- there are no arrays of longs or doubles -/
theorem mw_noA {D : va_G} {q : Nat} {v : List Value} {H : Heap} (h : va_at D vwCl (q, .inr (999, v)) H) : False := by
  obtain ⟨r, hr, -⟩ := h
  exact absurd (List.getElem?_eq_some_iff.mp hr).1 (by show ¬ 999 < vwCl.length; decide)
def mw_aty (j : Nat) : FieldType := match j with
  | 0 => .int
  | 1 => .char
  | 2 => .int
  | 3 => .int
  | 4 => .byte
  | 5 => .object "MoonFerryOffice$State"
  | 6 => .array .int
  | _ => .object "java/lang/Object"
def mw_tys (G : mw_G) : List (ClassId × FieldType) := (List.range 8).map (fun j => (G.2.2.1 j, mw_aty j))
def mw_Rel (G : mw_G) (M : mw_Mem) (H : Heap) : Prop := H.size = G.1 + M.2.2.2.2.2 ∧ ∀ (a : Nat) (k : Nat × Nat), M.2.2.2.2.1 a = some k → a < 1000000 ∧ (k.1 < 28 ∧ ¬ mw_prot G (G.1 + a)) ∧ va_at G.2.1 vwCl (G.1 + a, mw_cell G M k.1 k.2 a) H
def mw_toL (G : mw_G) : Nat → List (Option Value) → List (Nat × Value)
  | _, [] => []
  | i, none :: r => mw_toL G (i + 1) r
  | i, some v :: r => (i, mw_tr G v) :: mw_toL G (i + 1) r
theorem mw_toL_in (G : mw_G) : ∀ (ls : List (Option Value)) (i : Nat) (q : Nat × Value), q ∈ mw_toL G i ls ↔ ∃ (j : Nat) (v : Value), ls[j]? = some (some v) ∧ q = (i + j, mw_tr G v)
  | [], i, q => by simp [mw_toL]
  | none :: r, i, q => by
    rw [mw_toL, mw_toL_in G r (i + 1) q]
    constructor
    · rintro ⟨j, v, h, rfl⟩
      exact ⟨j + 1, v, by simpa using h, by rw [show i + 1 + j = i + (j + 1) by omega]⟩
    · rintro ⟨j, v, h, rfl⟩
      cases j with
      | zero => simp at h
      | succ j => exact ⟨j, v, by simpa using h, by rw [show i + 1 + j = i + (j + 1) by omega]⟩
  | some w :: r, i, q => by
    rw [mw_toL, List.mem_cons, mw_toL_in G r (i + 1) q]
    constructor
    · rintro (rfl | ⟨j, v, h, rfl⟩)
      · exact ⟨0, w, by simp, by simp⟩
      · exact ⟨j + 1, v, by simpa using h, by rw [show i + 1 + j = i + (j + 1) by omega]⟩
    · rintro ⟨j, v, h, rfl⟩
      cases j with
      | zero => simp at h; subst h; exact Or.inl (by simp)
      | succ j => exact Or.inr ⟨j, v, by simpa using h, by rw [show i + 1 + j = i + (j + 1) by omega]⟩
def mw_LR (G : mw_G) (nL : Nat) (ls : List (Option Value)) (lsR : Array Slot) : Prop := ls.length = nL ∧ lv_has lsR nL (mw_toL G 0 ls)
theorem mw_LR_at {G : mw_G} {nL : Nat} {ls : List (Option Value)} {lsR : Array Slot} (h : mw_LR G nL ls lsR) {i : Nat} {v : Value} (hv : mw_ld ls i = some v) : lsR[i]? = some (.val (mw_tr G v)) := by
  have h1 : ls[i]? = some (some v) := by
    unfold mw_ld at hv
    split at hv
    · rename_i w e
      cases hv
      exact e
    · cases hv
  exact h.2.2.2 (i, mw_tr G v) ((mw_toL_in G ls 0 _).mpr ⟨i, v, h1, by simp⟩)
theorem mw_LR_sub {G : mw_G} {nL : Nat} {ls ls' : List (Option Value)} {lsR : Array Slot} (h : mw_LR G nL ls lsR) (hl : ls'.length = ls.length) (hs : ∀ (i : Nat) (v : Value), ls'[i]? = some (some v) → ls[i]? = some (some v)) : mw_LR G nL ls' lsR := by
  refine ⟨hl.trans h.1, h.2.1, h.2.2.1, fun q hq => ?_⟩
  obtain ⟨j, v, hj, rfl⟩ := (mw_toL_in G ls' 0 q).mp hq
  exact h.2.2.2 _ ((mw_toL_in G ls 0 _).mpr ⟨j, v, hs j v hj, rfl⟩)
theorem mw_ok1_lt {ls : List (Option Value)} {i : Nat} (h : mw_ok1 ls i = true) : i < ls.length := by
  simp only [mw_ok1, Bool.and_eq_true, decide_eq_true_eq] at h
  exact h.1
theorem mw_ok1_cat {ls : List (Option Value)} {i j : Nat} {v : Value} (h : mw_ok1 ls i = true) (hj : j + 1 = i) (hv : ls[j]? = some (some v)) : ¬ v.category = 2 := by
  subst hj
  simp only [mw_ok1, Bool.and_eq_true, decide_eq_true_eq, hv] at h
  cases v <;> simp [Value.category] at h ⊢
theorem mw_LR_st1 {G : mw_G} {nL : Nat} {ls : List (Option Value)} {i : Nat} {v : Value} {lsR : Array Slot} (hl : ls.length = nL) (ok : mw_ok1 ls i = true) (h : lv_has lsR nL ((i, mw_tr G v) :: (mw_toL G 0 ls).filter (fun q => !(q.1 == i) && !(q.1 + 1 == i && q.2.category == 2)))) : mw_LR G nL (ls.set i (some v)) lsR := by
  refine ⟨by rw [List.length_set]; exact hl, h.1, h.2.1, fun q hq => ?_⟩
  obtain ⟨j, w, hj, rfl⟩ := (mw_toL_in G _ 0 q).mp hq
  refine h.2.2 _ ?_
  by_cases e : j = i
  · subst e
    rw [List.getElem?_set_self (mw_ok1_lt ok)] at hj
    cases hj
    simp
  · rw [List.getElem?_set_ne (Ne.symm e)] at hj
    refine List.mem_cons_of_mem _ (List.mem_filter.mpr ⟨(mw_toL_in G ls 0 _).mpr ⟨j, w, hj, rfl⟩, ?_⟩)
    have n1 : ¬ (0 + j = i) := by omega
    by_cases e2 : j + 1 = i
    · have := mw_ok1_cat ok e2 hj
      simp [e, mw_tr_cat, this]
    · have n2 : ¬ (0 + j + 1 = i) := by omega
      simp [e, e2]
theorem mw_LR_st2 {G : mw_G} {nL : Nat} {ls : List (Option Value)} {i : Nat} {v : Value} {lsR : Array Slot} (hl : ls.length = nL) (ok : mw_ok1 ls i = true) (h : lv_has lsR nL ((i, mw_tr G v) :: (mw_toL G 0 ls).filter (fun q => !(q.1 == i) && (!(q.1 == i + 1) && !(q.1 + 1 == i && q.2.category == 2))))) : mw_LR G nL ((ls.set i (some v)).set (i + 1) none) lsR := by
  refine ⟨by rw [List.length_set, List.length_set]; exact hl, h.1, h.2.1, fun q hq => ?_⟩
  obtain ⟨j, w, hj, rfl⟩ := (mw_toL_in G _ 0 q).mp hq
  refine h.2.2 _ ?_
  by_cases e1 : j = i + 1
  · subst e1
    by_cases hlt : i + 1 < (ls.set i (some v)).length
    · rw [List.getElem?_set_self hlt] at hj
      cases hj
    · rw [List.getElem?_eq_none (by rw [List.length_set]; omega)] at hj
      cases hj
  · rw [List.getElem?_set_ne (Ne.symm e1)] at hj
    by_cases e : j = i
    · subst e
      rw [List.getElem?_set_self (mw_ok1_lt ok)] at hj
      cases hj
      simp
    · rw [List.getElem?_set_ne (Ne.symm e)] at hj
      refine List.mem_cons_of_mem _ (List.mem_filter.mpr ⟨(mw_toL_in G ls 0 _).mpr ⟨j, w, hj, rfl⟩, ?_⟩)
      have n1 : ¬ (0 + j = i) := by omega
      have n3 : ¬ (0 + j = i + 1) := by omega
      by_cases e2 : j + 1 = i
      · have := mw_ok1_cat ok e2 hj
        simp [e, e1, mw_tr_cat, this]
      · have n2 : ¬ (0 + j + 1 = i) := by omega
        simp [e, e1, e2]
