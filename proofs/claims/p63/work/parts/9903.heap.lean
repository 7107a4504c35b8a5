/-! the classes' tables, and the abstract memory under a store -/
theorem mw_cls_ws : ∀ (k : Nat) (r : vw_C), vwCl[k]? = some r → ∀ w ∈ u_ws r.1 r.2.1 r.2.2, w ∈ mw_T := by
  have h : (vwCl.all fun r => (u_ws r.1 r.2.1 r.2.2).all fun w => decide (w ∈ mw_tbl) && goodWord w) = true := by decide +kernel
  intro k r hk w hw
  rw [List.all_eq_true] at h
  have h1 := h r (List.mem_of_getElem? hk)
  rw [List.all_eq_true] at h1
  have h2 := h1 w hw
  simp only [Bool.and_eq_true, decide_eq_true_eq] at h2
  exact List.mem_filter.mpr h2
theorem mw_cls_nm : ∀ (k : Nat) (r : vw_C), vwCl[k]? = some r → ∀ a, a < r.2.2 → ∀ b, b < r.2.2 → a ≠ b → (r.2.1 a).2.1 ≠ (r.2.1 b).2.1 := by
  have h : (vwCl.all fun r => (List.range r.2.2).all fun a => (List.range r.2.2).all fun b => decide (a = b) || decide ((r.2.1 a).2.1 ≠ (r.2.1 b).2.1)) = true := by decide +kernel
  intro k r hk a ha b hb hab
  rw [List.all_eq_true] at h
  have h1 := h r (List.mem_of_getElem? hk)
  rw [List.all_eq_true] at h1
  have h2 := h1 a (List.mem_range.mpr ha)
  rw [List.all_eq_true] at h2
  have h3 := h2 b (List.mem_range.mpr hb)
  simp only [Bool.or_eq_true, decide_eq_true_eq] at h3
  exact h3.resolve_left hab
/-- what a field's descriptor says, by how the field is kept -/
def mw_tyok (d : String) : Bool := match parseFieldDescriptor d with
  | some .int => decide (mw_tg d = 0)
  | some .long => decide (mw_tg d = 1)
  | some .boolean => decide (mw_tg d = 3)
  | some .byte => decide (mw_tg d = 3)
  | some (.object _) => decide (mw_tg d = 2)
  | some (.array _) => decide (mw_tg d = 2)
  | _ => false
theorem mw_cls_ty : ∀ (k : Nat) (r : vw_C), vwCl[k]? = some r → ∀ j, j < r.2.2 → mw_tyok (r.2.1 j).2.2.1 = true := by
  have h : (vwCl.all fun r => (List.range r.2.2).all fun j => mw_tyok (r.2.1 j).2.2.1) = true := by decide +kernel
  intro k r hk j hj
  rw [List.all_eq_true] at h
  have h1 := h r (List.mem_of_getElem? hk)
  rw [List.all_eq_true] at h1
  exact h1 j (List.mem_range.mpr hj)
def mw_ty0 (r : vw_C) (j : Nat) : FieldType := (parseFieldDescriptor (r.2.1 j).2.2.1).getD .int
theorem mw_ty0_ok {k : Nat} {r : vw_C} (hk : vwCl[k]? = some r) : ∀ j, j < r.2.2 → parseFieldDescriptor (r.2.1 j).2.2.1 = some (mw_ty0 r j) := by
  intro j hj
  have h := mw_cls_ty k r hk j hj
  unfold mw_tyok at h
  unfold mw_ty0
  split at h <;> simp_all
theorem mw_cls_lt {k : Nat} {r : vw_C} (hk : vwCl[k]? = some r) : k < 19 := (List.getElem?_eq_some_iff.mp hk).1
/-- the values that a field of a kind takes -/
theorem mw_store_ty {k : Nat} {r : vw_C} (hk : vwCl[k]? = some r) {j : Nat} (hj : j < r.2.2) {v : Value} (h : (mw_tg (r.2.1 j).2.2.1 = 0 ∧ ∃ x, v = .int x) ∨ (mw_tg (r.2.1 j).2.2.1 = 1 ∧ ∃ x, v = .long x) ∨ (mw_tg (r.2.1 j).2.2.1 = 2 ∧ ∃ x, v = .ref x) ∨ (mw_tg (r.2.1 j).2.2.1 = 3 ∧ (v = .int 0 ∨ v = .int 1))) : narrow (mw_ty0 r j) v = v ∧ fits (mw_ty0 r j) v = true := by
  have h0 := mw_cls_ty k r hk j hj
  unfold mw_tyok at h0
  unfold mw_ty0
  split at h0
  · rename_i e
    simp only [decide_eq_true_eq] at h0
    rw [e]
    rcases h with ⟨h1, x, rfl⟩ | ⟨h1, x, rfl⟩ | ⟨h1, x, rfl⟩ | ⟨h1, _⟩
    · exact ⟨rfl, rfl⟩
    · omega
    · omega
    · omega
  · rename_i e
    simp only [decide_eq_true_eq] at h0
    rw [e]
    rcases h with ⟨h1, x, rfl⟩ | ⟨h1, x, rfl⟩ | ⟨h1, x, rfl⟩ | ⟨h1, _⟩
    · omega
    · exact ⟨rfl, rfl⟩
    · omega
    · omega
  · rename_i e
    simp only [decide_eq_true_eq] at h0
    rw [e]
    rcases h with ⟨h1, x, rfl⟩ | ⟨h1, x, rfl⟩ | ⟨h1, x, rfl⟩ | ⟨h1, rfl | rfl⟩
    · omega
    · omega
    · omega
    · exact ⟨rfl, rfl⟩
    · exact ⟨rfl, rfl⟩
  · rename_i e
    simp only [decide_eq_true_eq] at h0
    rw [e]
    rcases h with ⟨h1, x, rfl⟩ | ⟨h1, x, rfl⟩ | ⟨h1, x, rfl⟩ | ⟨h1, rfl | rfl⟩
    · omega
    · omega
    · omega
    · exact ⟨rfl, rfl⟩
    · exact ⟨rfl, rfl⟩
  · rename_i e
    simp only [decide_eq_true_eq] at h0
    rw [e]
    rcases h with ⟨h1, x, rfl⟩ | ⟨h1, x, rfl⟩ | ⟨h1, x, rfl⟩ | ⟨h1, _⟩
    · omega
    · omega
    · exact ⟨rfl, rfl⟩
    · omega
  · rename_i e
    simp only [decide_eq_true_eq] at h0
    rw [e]
    rcases h with ⟨h1, x, rfl⟩ | ⟨h1, x, rfl⟩ | ⟨h1, x, rfl⟩ | ⟨h1, _⟩
    · omega
    · omega
    · exact ⟨rfl, rfl⟩
    · omega
  · cases h0
theorem mw_u_eq {α : Type} (f : Nat → Nat → α) (a k : Nat) (v : α) : mw_u f a k v a = fun y => if y = k then v else f a y := by
  funext y; simp [mw_u]
theorem mw_u_ne {α : Type} (f : Nat → Nat → α) {a x : Nat} (k : Nat) (v : α) (h : x ≠ a) : mw_u f a k v x = f x := by
  funext y; simp [mw_u, h]
theorem mw_z_eq {α : Type} (f : Nat → Nat → α) (a : Nat) (v : α) : mw_z f a v a = fun _ => v := by
  funext y; simp [mw_z]
theorem mw_z_ne {α : Type} (f : Nat → Nat → α) {a x : Nat} (v : α) (h : x ≠ a) : mw_z f a v x = f x := by
  funext y; simp [mw_z, h]
theorem mw_fv_congr {G : mw_G} {M M' : mw_Mem} {k a : Nat} (h1 : M'.1 a = M.1 a) (h2 : M'.2.1 a = M.2.1 a) (h4 : M'.2.2.2.1 a = M.2.2.2.1 a) : mw_fv G M' k a = mw_fv G M k a := by
  funext j
  unfold mw_fv mw_gv
  rw [h1, h2, h4]
theorem mw_cell_congr {G : mw_G} {M M' : mw_Mem} {k n a : Nat} (h1 : M'.1 a = M.1 a) (h2 : M'.2.1 a = M.2.1 a) (h3 : M'.2.2.1 a = M.2.2.1 a) (h4 : M'.2.2.2.1 a = M.2.2.2.1 a) : mw_cell G M' k n a = mw_cell G M k n a := by
  unfold mw_cell
  rw [h1, h4]
  split <;> first | rfl | rw [mw_fv_congr h1 h2 h4]
theorem mw_cell_obj {G : mw_G} {M : mw_Mem} {k n a : Nat} {r : vw_C} (hk : vwCl[k]? = some r) : mw_cell G M k n a = .inr (k, (List.range r.2.2).map (mw_fv G M k a)) := by
  have hl := mw_cls_lt hk
  unfold mw_cell
  split <;> first | omega | (rw [hk]; rfl)
theorem mw_Rel_set {G : mw_G} {M M' : mw_Mem} {H H1 : Heap} {a : Nat} (hR : mw_Rel G M H) (hkd : M'.2.2.2.2 = M.2.2.2.2) (hc : ∀ x, x ≠ a → ∀ k n, mw_cell G M' k n x = mw_cell G M k n x) (he : ∀ k, M.2.2.2.2.1 a = some k → va_at G.2.1 vwCl (G.1 + a, mw_cell G M' k.1 k.2 a) H1) (z : H1.size = H.size) (oq : ∀ q : Nat, q ≠ G.1 + a → H1[q]? = H[q]?) : mw_Rel G M' H1 := by
  refine ⟨by rw [z, hkd]; exact hR.1, fun x k hk => ?_⟩
  rw [hkd] at hk
  obtain ⟨h1, h2, h3⟩ := hR.2 x k hk
  refine ⟨h1, h2, ?_⟩
  by_cases e : x = a
  · subst e
    exact he k hk
  · rw [hc x e]
    exact h3.kept (oq _ (by show G.1 + x ≠ G.1 + a; omega))
theorem mw_Rel_new {G : mw_G} {M M' : mw_Mem} {H H1 : Heap} {q : Nat × Nat} (hR : mw_Rel G M H) (hq : q.1 < 28) (hnp : ¬ mw_prot G (G.1 + M.2.2.2.2.2)) (hlt : M.2.2.2.2.2 < 1000000) (hkd : M'.2.2.2.2.1 = mw_k M.2.2.2.2.1 M.2.2.2.2.2 (some q)) (hn : M'.2.2.2.2.2 = M.2.2.2.2.2 + 1) (hc : ∀ x, x ≠ M.2.2.2.2.2 → ∀ k n, mw_cell G M' k n x = mw_cell G M k n x) (he : va_at G.2.1 vwCl (H.size, mw_cell G M' q.1 q.2 M.2.2.2.2.2) H1) (z : H1.size = H.size + 1) (oq : ∀ q : Nat, q < H.size → H1[q]? = H[q]?) : mw_Rel G M' H1 := by
  refine ⟨by rw [z, hn, hR.1]; omega, fun x k hk => ?_⟩
  rw [hkd] at hk
  unfold mw_k at hk
  by_cases e : x = M.2.2.2.2.2
  · rw [if_pos e] at hk
    cases hk
    subst e
    exact ⟨hlt, ⟨hq, hnp⟩, by rw [← hR.1]; exact he⟩
  · rw [if_neg e] at hk
    obtain ⟨h1, h2, h3⟩ := hR.2 x k hk
    refine ⟨h1, h2, ?_⟩
    rw [hc x e]
    exact h3.kept (oq _ h3.lt)
theorem mw_rho_lt {G : mw_G} {a : Nat} (h : a < 1000000) : mw_rho G a = G.1 + a := if_pos h
theorem mw_inA {G : mw_G} {M : mw_Mem} {H : Heap} (hR : mw_Rel G M H) {a : Nat} {k : Nat × Nat} (hk : M.2.2.2.2.1 a = some k) : mw_A G (G.1 + a) := ⟨Nat.le_add_right _ _, (hR.2 a k hk).2.1.2⟩
