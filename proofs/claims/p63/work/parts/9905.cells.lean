/-! the instructions that read, write and make cells, and the returns -/
section
variable {G : mw_G} {p : Program} {l : Launch} {e : Env} {R : Room} {s : State} {m : MethodId} {args : Array Value} {below : List Frame} {meth : Method} {cc : Code} {cd : mw_CD} {CT ST : Nat} {Q : State → Prop}
theorem mw_tag_of {k j : Nat} {r : vw_C} (hr : vwCl[k]? = some r) : mw_tag k j = mw_tg (r.2.1 j).2.2.1 := by unfold mw_tag; rw [hr]
theorem mw_fv_gv {M : mw_Mem} {k a j t : Nat} (h : mw_tag k j = t) : mw_fv G M k a j = mw_tr G (mw_gv t M a j) := by subst h; rfl
theorem mw_arr {M : mw_Mem} {H : Heap} (hR : mw_Rel G M H) {a k n : Nat} (hk : M.2.2.2.2.1 a = some (k, n)) : G.1 + a = mw_rho G a ∧ va_at G.2.1 vwCl (G.1 + a, mw_cell G M k n a) H := ⟨(mw_rho_lt (hR.2 a _ hk).1).symm, (hR.2 a _ hk).2.2⟩

theorem mw_i_getfield (hB : mw_Bd G p s m args meth cc cd) {q : mw_I} {pc : Nat} {ls : List (Option Value)} {st : List Value} {M : mw_Mem} {c sl : Nat} {sc : Nat × (Nat → Int32)} {rt : Option FieldType} {Qr : Option Value → mw_Mem → Prop} {n : Nat} (hq : q.1 = .getfield n) (hc : mw_chkI cd.1 cd.2.1 pc q = true) (h : mw_app (mw_ins sc rt q pc ls st M c sl) (mw_WF G p l e R s m args below meth cc cd.2.2.1 CT ST Q) Qr) : mw_WF G p l e R s m args below meth cc cd.2.2.1 CT ST Q (pc, ls, st, M, c, sl) := by
  obtain ⟨hx, hb, hml, hr, hlk, hown, hnm, hts, hC⟩ := hB
  obtain ⟨i, len, ⟨r1, r2, r3⟩, ps, y, k⟩ := q
  dsimp only at hq
  subst hq
  unfold mw_chkI at hc
  simp only [Bool.and_eq_true, decide_eq_true_eq] at hc
  obtain ⟨hd, hc⟩ := hc
  have hd := mw_dec_eq hd
  try dsimp only at hd hc
  unfold mw_ins at h
  try dsimp only at h
  intro H locs cells slots lsR hR hS hL hcc hss
  dsimp only at hR hS hL hcc hss ⊢

  split at hc
  · rename_i r hr
    simp only [Bool.and_eq_true, decide_eq_true_eq] at hc
    obtain ⟨⟨h1, h2, rfl⟩, h3⟩ := hc
    have h3 := mw_glk_of h3
    split at h
    · rename_i a st0
      by_cases ho : 1000001 ≤ a ∧ a < 1000031
      · rw [if_pos ho] at h
        obtain ⟨i, hi, e1, e2⟩ := mw_o10 ho
        have hE := hC.2.1.2.2.2.2.2.2.2.1.1 i hi
        dsimp only at hE
        rw [← e1, ← e2] at hE
        split at h
        · rename_i hz
          subst hz
          obtain rfl : (RJ0, TJ0, 4) = r := Option.some.inj hr
          split at h
          · exact vk_getf hx hb hE.2.2.1 hS hown (hts _ (h3.resolve_right (by rintro (w | w) <;> exact absurd w.1 (by decide)))) (fun _ h9 => h9) hd (h H locs cells slots lsR hR hS hL hcc hss)
          · exact vk_getf hx hb hE.2.1 hS hown (hts _ (h3.resolve_right (by rintro (w | w) <;> exact absurd w.1 (by decide)))) (fun _ h9 => h9) hd (h H locs cells slots lsR hR hS hL hcc hss)
          · exact h.elim
        · exact h.elim
      rw [if_neg ho] at h
      split at h
      · rename_i k0 n0 hk0
        split at h
        · rename_i hkk
          subst hkk
          obtain ⟨e0, hat⟩ := mw_arr hR hk0
          rw [mw_cell_obj hr] at hat
          have hP : va_P G.2.1 vwCl [(G.1 + a, .inr (k0, (List.range r.2.2).map (mw_fv G M k0 a)))] H := fun j z hz => by
            have h0 : j < 1 := (List.getElem?_eq_some_iff.mp hz).1
            rw [show j = 0 by omega] at hz
            cases hz
            exact hat
          have hv : ((List.range r.2.2).map (mw_fv G M k0 a))[r2]? = some (mw_fv G M k0 a r2) := by
            rw [List.getElem?_map, List.getElem?_range h1]; rfl
          have hh := h H locs cells slots lsR hR hS hL hcc hss
          have e1 : mw_fv G M k0 a r2 = mw_tr G (mw_gv r3 M a r2) := mw_fv_gv ((mw_tag_of hr).trans h2)
          show W p l e R s m args below meth cc H locs cells slots Q (F0 m pc lsR (.ref (mw_rho G a) :: st0.map (mw_tr G)))
          rw [← e0]
          rcases h3 with h3 | ⟨-, h3, h3s⟩ | ⟨-, h3⟩
          · refine va_get hx hb hts (mw_cls_ws k0 r hr) hown hC.1 hP 0 rfl (by rw [hr]) r2 h1 (hts _ h3) (fun _ h9 => h9) hv hd ?_
            rw [e1]
            exact hh
          · refine va_get hx hb hts (mw_cls_ws k0 r hr) hown hC.1 hP 0 rfl (by rw [hr]) r2 h1 (hts _ h3) (fun x9 h9 => u_same (hts _ h3s) x9 h9) hv hd ?_
            rw [e1]
            exact hh
          · refine va_getN hx hb hts (mw_cls_ws k0 r hr) hown hC.1 hP 0 rfl (by rw [hr]) r2 h1 (va_Nw.use rfl (hC.2.2.2.2.1 _ h3)) (fun _ h9 => h9) hv hd ?_
            rw [e1]
            exact hh
        · exact h.elim
      · split at h
        · rename_i hz
          obtain ⟨hz0, rfl, rfl⟩ := hz
          obtain rfl : (RJ6, TJ6, 1) = r := Option.some.inj hr
          obtain ⟨k9, hk9, rfl⟩ := mw_o500 hz0
          rw [show 1000500 + k9 - 1000500 = k9 by omega] at h
          exact vk_getf hx hb (hC.2.2.2.2.2.2.2.2.2.2.2.2.1.2 k9 hk9) hS hown (hts _ (h3.resolve_right (by rintro (w | w) <;> exact absurd w.1 (by decide)))) (fun _ h9 => h9) hd (h H locs cells slots lsR hR hS hL hcc hss)
        · exact h.elim
    · exact h.elim
  · cases hc
theorem mw_put (hB : mw_Bd G p s m args meth cc cd) {M M' : mw_Mem} {H : Heap} {locs : List Loc} {cells slots pc n k0 n0 a r2 : Nat} {lsR : Array Slot} {rest : List Value} {r : vw_C} {vR : Value} (hR : mw_Rel G M H) (hS : va_S (mw_A G) s.heap H locs) (hk0 : M.2.2.2.2.1 a = some (k0, n0)) (hr : vwCl[k0]? = some r) (h1 : r2 < r.2.2) (h3 : Cond.fieldLink cd.1.cls n (r.2.1 r2).1 (r.2.1 r2).2.1 (r.2.1 r2).2.2.1 ∈ mw_T ∨ (Cond.fieldLink cd.1.cls n "java/util/ArrayList" (r.2.1 r2).2.1 (r.2.1 r2).2.2.1 ∈ mw_T ∧ Cond.sameField "java/util/ArrayList" (r.2.1 r2).1 (r.2.1 r2).2.1 (r.2.1 r2).2.2.1 ∈ mw_T)) (hfin : (r.2.1 r2).2.2.2 = false ∨ (cd.1.name = "<init>" ∧ (r.2.1 r2).1 = cd.1.cls)) (hv : narrow (mw_ty0 r r2) vR = vR ∧ fits (mw_ty0 r r2) vR = true)
    (hkd : M'.2.2.2.2 = M.2.2.2.2) (hc : ∀ x, x ≠ a → ∀ k n, mw_cell G M' k n x = mw_cell G M k n x) (hcell : ∀ j, j < r.2.2 → mw_fv G M' k0 a j = if j = r2 then vR else mw_fv G M k0 a j) (hd : decode cd.2.1 pc = .ok (.putfield n, 3))
    (kk : ∀ (H1 : Heap) (locs1 : List Loc), mw_Rel G M' H1 → va_S (mw_A G) s.heap H1 locs1 → W p l e R s m args below meth cc H1 locs1 cells slots Q (F0 m (pc + 3) lsR rest)) : W p l e R s m args below meth cc H locs cells slots Q (F0 m pc lsR (vR :: .ref (G.1 + a) :: rest)) := by
  obtain ⟨hx, hb, hml, hret, hlk, hown, hnm, hts, hC⟩ := hB
  have hin := mw_cls_ws k0 r hr
  obtain ⟨ref, hlink, hsame⟩ : ∃ ref, (Cond.fieldLink cd.1.cls n ref (r.2.1 r2).2.1 (r.2.1 r2).2.2.1).before args s = true ∧ ∀ x, s.fieldFound? (r.2.1 r2).1 (r.2.1 r2).2.1 (r.2.1 r2).2.2.1 = some x → s.fieldFound? ref (r.2.1 r2).2.1 (r.2.1 r2).2.2.1 = some x := by
    rcases h3 with h3 | ⟨h3, h3s⟩
    · exact ⟨_, hts _ h3, fun _ h9 => h9⟩
    · exact ⟨_, hts _ h3, fun x9 h9 => u_same (hts _ h3s) x9 h9⟩
  have hat := (mw_arr hR hk0).2
  rw [mw_cell_obj hr] at hat
  obtain ⟨r', hr', cell, q1, q2, q3, q4⟩ := hat
  cases hr.symm.trans hr'
  have hap := va_apart (own := cd.1.cls) hts hin (mw_ty0 r) (mw_ty0_ok hr) (mw_cls_nm k0 r hr) hC.1 hr
  obtain ⟨hSl, hfc, kC, hkC, hkind⟩ := hC.1.1 k0 _ hr
  obtain ⟨cf, kf, fi, f, hi, hsl⟩ := hSl r2 h1
  have hst := (u_facts hfc hkC (u_lays hts hin h1) hi).1
  have hd0 := mw_ty0_ok hr r2 h1
  have hfs : ∀ j, j < r.2.2 → updV (vp_V ((List.range r.2.2).map (mw_fv G M k0 a))) r2 vR j = vp_V ((List.range r.2.2).map (mw_fv G M' k0 a)) j := by
    intro j hj
    unfold updV vp_V
    rw [List.getD_eq_getElem?_getD, List.getD_eq_getElem?_getD, List.getElem?_map, List.getElem?_map, List.getElem?_range hj]
    show (if j = r2 then vR else mw_fv G M k0 a j) = mw_fv G M' k0 a j
    exact (hcell j hj).symm
  have fin : ∀ (H' : Heap), H'[G.1 + a]? = some (cell.setSlot (G.2.1.2 k0 r2) vR) → H'.size = H.size → (∀ q, q ≠ G.1 + a → H'[q]? = H[q]?) → W p l e R s m args below meth cc H' (locs ++ [⟨G.1 + a, G.2.1.2 k0 r2⟩]) cells slots Q (F0 m (pc + 3) lsR rest) := by
    intro H' e1 e2 e3
    refine kk H' _ (mw_Rel_set hR hkd hc (fun k hk => ?_) e2 e3) (hS.put e2 e3 (mw_inA hR hk0))
    cases hk0.symm.trans hk
    rw [mw_cell_obj hr]
    exact ⟨r, hr, t_OB.to (V := updV (vp_V ((List.range r.2.2).map (mw_fv G M k0 a))) r2 vR) ⟨_, e1, q2, q3, t_set q4 hap h1 vR⟩ hfs⟩
  by_cases hf : (r.2.1 r2).2.2.2 = false
  · have hlay := hts _ (hin _ (u_in_lay h1))
    unfold u_lay at hlay
    rw [if_neg (by rw [hf]; decide)] at hlay
    have h6 := u_store hfc hkC hkind hlay hi hd0 hv.1 hv.2
    refine W.putK hx hb (f := f) ⟨hown, hlink, ⟨_, _, _, hsame _ hi⟩, hst⟩ (by rw [q2]; exact h6) q1 q3 (by rw [hsl]; exact k2_hasslot (q4 r2 h1)) rfl rfl hd fun H' e1 e2 e3 => ?_
    rw [hsl] at e1 ⊢
    exact fin H' e1 e2 e3
  · have hf : (r.2.1 r2).2.2.2 = true := by cases hz : (r.2.1 r2).2.2.2 with | false => exact absurd hz hf | true => rfl
    obtain ⟨hin2, hdecl⟩ := hfin.resolve_left (by rw [hf]; decide)
    have hlay := hts _ (hin _ (u_in_lay h1))
    unfold u_lay at hlay
    rw [if_pos hf] at hlay
    have hcf : m.cls = cf := by
      obtain ⟨_, _, c', _, _, _, -, -, hf', -, -, -, hown2, -⟩ := Cond.laysFinal_spec hlay
      have e1 : c' = cf := by have := hi.symm.trans hf'; simp at this; exact this.1.symm
      rw [hdecl] at hown2
      rw [← e1]; exact Option.some.inj (hown.symm.trans hown2)
    have h6 := u_fits hfc hkC hkind (Or.inr hlay) hi hd0 hv.1 hv.2
    refine W.putFinK hx hb hown hlink (hsame _ hi) hst hcf (hnm.trans hin2) (by rw [q2]; exact h6) q1 q3 (by rw [hsl]; exact k2_hasslot (q4 r2 h1)) rfl rfl hd fun H' e1 e2 e3 => ?_
    rw [hsl] at e1 ⊢
    exact fin H' e1 e2 e3
theorem mw_cI {M : mw_Mem} {a k : Nat} {v : Int32} : ∀ x, x ≠ a → ∀ k9 n9, mw_cell G (mw_sI M a k v) k9 n9 x = mw_cell G M k9 n9 x := fun _ hx _ _ => mw_cell_congr (mw_u_ne _ _ _ hx) rfl rfl rfl
theorem mw_cL {M : mw_Mem} {a k : Nat} {v : Int64} : ∀ x, x ≠ a → ∀ k9 n9, mw_cell G (mw_sL M a k v) k9 n9 x = mw_cell G M k9 n9 x := fun _ hx _ _ => mw_cell_congr rfl (mw_u_ne _ _ _ hx) rfl rfl
theorem mw_cD {M : mw_Mem} {a k : Nat} {v : UInt64} : ∀ x, x ≠ a → ∀ k9 n9, mw_cell G (mw_sD M a k v) k9 n9 x = mw_cell G M k9 n9 x := fun _ hx _ _ => mw_cell_congr rfl rfl (mw_u_ne _ _ _ hx) rfl
theorem mw_cR {M : mw_Mem} {a k : Nat} {v : Option Nat} : ∀ x, x ≠ a → ∀ k9 n9, mw_cell G (mw_sR M a k v) k9 n9 x = mw_cell G M k9 n9 x := fun _ hx _ _ => mw_cell_congr rfl rfl rfl (mw_u_ne _ _ _ hx)
theorem mw_gv_I {M : mw_Mem} {a r2 j t : Nat} {x : Int32} (e : j ≠ r2) : mw_gv t (mw_sI M a r2 x) a j = mw_gv t M a j := by
  unfold mw_gv mw_sI
  dsimp only
  rw [mw_u_eq]
  dsimp only
  rw [if_neg e]
theorem mw_gv_L {M : mw_Mem} {a r2 j t : Nat} {x : Int64} (e : j ≠ r2) : mw_gv t (mw_sL M a r2 x) a j = mw_gv t M a j := by
  unfold mw_gv mw_sL
  dsimp only
  rw [mw_u_eq]
  dsimp only
  rw [if_neg e]
theorem mw_gv_R {M : mw_Mem} {a r2 j t : Nat} {x : Option Nat} (e : j ≠ r2) : mw_gv t (mw_sR M a r2 x) a j = mw_gv t M a j := by
  unfold mw_gv mw_sR
  dsimp only
  rw [mw_u_eq]
  dsimp only
  rw [if_neg e]
theorem mw_fvI {M : mw_Mem} {k0 a r2 : Nat} {x : Int32} (ht : mw_tag k0 r2 = 0 ∨ mw_tag k0 r2 = 3) (j : Nat) : mw_fv G (mw_sI M a r2 x) k0 a j = if j = r2 then .int x else mw_fv G M k0 a j := by
  unfold mw_fv
  by_cases e : j = r2
  · subst e
    rw [if_pos rfl]
    rcases ht with ht | ht <;> (rw [ht]; simp [mw_gv, mw_sI, mw_u, mw_tr])
  · rw [if_neg e, mw_gv_I e]
theorem mw_fvL {M : mw_Mem} {k0 a r2 : Nat} {x : Int64} (ht : mw_tag k0 r2 = 1) (j : Nat) : mw_fv G (mw_sL M a r2 x) k0 a j = if j = r2 then .long x else mw_fv G M k0 a j := by
  unfold mw_fv
  by_cases e : j = r2
  · subst e
    rw [if_pos rfl, ht]
    simp [mw_gv, mw_sL, mw_u, mw_tr]
  · rw [if_neg e, mw_gv_L e]
theorem mw_fvR {M : mw_Mem} {k0 a r2 : Nat} {x : Nat} (ht : mw_tag k0 r2 = 2) (j : Nat) : mw_fv G (mw_sR M a r2 (some x)) k0 a j = if j = r2 then .ref (mw_rho G x) else mw_fv G M k0 a j := by
  unfold mw_fv
  by_cases e : j = r2
  · subst e
    rw [if_pos rfl, ht]
    simp [mw_gv, mw_sR, mw_u, mw_tr, mw_rv]
  · rw [if_neg e, mw_gv_R e]
theorem mw_i_putfield (hB : mw_Bd G p s m args meth cc cd) {q : mw_I} {pc : Nat} {ls : List (Option Value)} {st : List Value} {M : mw_Mem} {c sl : Nat} {sc : Nat × (Nat → Int32)} {rt : Option FieldType} {Qr : Option Value → mw_Mem → Prop} {n : Nat} (hq : q.1 = .putfield n) (hc : mw_chkI cd.1 cd.2.1 pc q = true) (h : mw_app (mw_ins sc rt q pc ls st M c sl) (mw_WF G p l e R s m args below meth cc cd.2.2.1 CT ST Q) Qr) : mw_WF G p l e R s m args below meth cc cd.2.2.1 CT ST Q (pc, ls, st, M, c, sl) := by
  obtain ⟨hx, hb, hml, hr0, hlk, hown, hnm, hts, hC⟩ := hB
  obtain ⟨i, len, ⟨r1, r2, r3⟩, ps, y, k⟩ := q
  dsimp only at hq
  subst hq
  unfold mw_chkI at hc
  simp only [Bool.and_eq_true, decide_eq_true_eq] at hc
  obtain ⟨hd, hc⟩ := hc
  have hd := mw_dec_eq hd
  try dsimp only at hd hc
  unfold mw_ins at h
  try dsimp only at h
  intro H locs cells slots lsR hR hS hL hcc hss
  dsimp only at hR hS hL hcc hss ⊢

  split at hc
  · rename_i r hr
    simp only [Bool.and_eq_true, decide_eq_true_eq] at hc
    obtain ⟨⟨h1, h2, rfl, hfin⟩, h3⟩ := hc
    have hB : mw_Bd G p s m args meth cc cd := ⟨hx, hb, hml, hr0, hlk, hown, hnm, hts, hC⟩
    have htag := mw_tag_of (j := r2) hr
    split at h
    · rename_i x a st0
      split at h
      · rename_i k0 n0 hk0
        split at h
        · rename_i hkk
          subst hkk
          show W p l e R s m args below meth cc H locs cells slots Q (F0 m pc lsR (.int x :: .ref (mw_rho G a) :: st0.map (mw_tr G)))
          rw [← (mw_arr hR hk0).1]
          split at h
          · exact mw_put (M' := mw_sI M a r2 x) hB hR hS hk0 hr h1 (mw_plk_of h3) hfin (mw_store_ty hr h1 (Or.inl ⟨h2, x, rfl⟩)) rfl mw_cI (fun j _ => mw_fvI (Or.inl (htag.trans h2)) j) hd (fun H1 locs1 a1 a2 => h H1 locs1 cells slots lsR a1 a2 hL hcc hss)
          · obtain ⟨h0, h⟩ := h
            exact mw_put (M' := mw_sI M a r2 x) hB hR hS hk0 hr h1 (mw_plk_of h3) hfin (mw_store_ty hr h1 (Or.inr (Or.inr (Or.inr ⟨h2, h0.elim (fun q => Or.inl (by rw [q])) (fun q => Or.inr (by rw [q]))⟩)))) rfl mw_cI (fun j _ => mw_fvI (Or.inr (htag.trans h2)) j) hd (fun H1 locs1 a1 a2 => h H1 locs1 cells slots lsR a1 a2 hL hcc hss)
          · exact h.elim
        · exact h.elim
      · exact h.elim
    · rename_i x a st0
      split at h
      · rename_i k0 n0 hk0
        split at h
        · rename_i hkk
          obtain ⟨rfl, rfl⟩ := hkk
          show W p l e R s m args below meth cc H locs cells slots Q (F0 m pc lsR (.long x :: .ref (mw_rho G a) :: st0.map (mw_tr G)))
          rw [← (mw_arr hR hk0).1]
          exact mw_put (M' := mw_sL M a r2 x) hB hR hS hk0 hr h1 (mw_plk_of h3) hfin (mw_store_ty hr h1 (Or.inr (Or.inl ⟨h2, x, rfl⟩))) rfl mw_cL (fun j _ => mw_fvL (htag.trans h2) j) hd (fun H1 locs1 a1 a2 => h H1 locs1 cells slots lsR a1 a2 hL hcc hss)
        · exact h.elim
      · exact h.elim
    · rename_i x a st0
      split at h
      · rename_i k0 n0 hk0
        split at h
        · rename_i hkk
          obtain ⟨rfl, rfl⟩ := hkk
          show W p l e R s m args below meth cc H locs cells slots Q (F0 m pc lsR (.ref (mw_rho G x) :: .ref (mw_rho G a) :: st0.map (mw_tr G)))
          rw [← (mw_arr hR hk0).1]
          exact mw_put (M' := mw_sR M a r2 (some x)) hB hR hS hk0 hr h1 (mw_plk_of h3) hfin (mw_store_ty hr h1 (Or.inr (Or.inr (Or.inl ⟨h2, _, rfl⟩)))) rfl mw_cR (fun j _ => mw_fvR (htag.trans h2) j) hd (fun H1 locs1 a1 a2 => h H1 locs1 cells slots lsR a1 a2 hL hcc hss)
        · exact h.elim
      · exact h.elim
    · exact h.elim
  · cases hc
theorem mw_i_iaload (hB : mw_Bd G p s m args meth cc cd) {q : mw_I} {pc : Nat} {ls : List (Option Value)} {st : List Value} {M : mw_Mem} {c sl : Nat} {sc : Nat × (Nat → Int32)} {rt : Option FieldType} {Qr : Option Value → mw_Mem → Prop} (hsc : sc = G.2.2.2.2) (hq : q.1 = .iaload) (hc : mw_chkI cd.1 cd.2.1 pc q = true) (h : mw_app (mw_ins sc rt q pc ls st M c sl) (mw_WF G p l e R s m args below meth cc cd.2.2.1 CT ST Q) Qr) : mw_WF G p l e R s m args below meth cc cd.2.2.1 CT ST Q (pc, ls, st, M, c, sl) := by
  obtain ⟨hx, hb, hml, hr, hlk, hown, hnm, hts, hC⟩ := hB
  obtain ⟨i, len, ⟨r1, r2, r3⟩, ps, y, k⟩ := q
  dsimp only at hq
  subst hq
  unfold mw_chkI at hc
  simp only [Bool.and_eq_true, decide_eq_true_eq] at hc
  obtain ⟨hd, hc⟩ := hc
  have hd := mw_dec_eq hd
  try dsimp only at hd hc
  unfold mw_ins at h
  try dsimp only at h
  intro H locs cells slots lsR hR hS hL hcc hss
  dsimp only at hR hS hL hcc hss ⊢

  subst hsc
  obtain rfl := hc
  split at h
  · rename_i i a st0
    split at h
    · rename_i ha
      subst ha
      obtain ⟨hin, h⟩ := h
      exact va_sld hx hb hC.2.1.1 (Nat.lt_of_lt_of_le hC.2.2.1 hC.2.2.2.1.1) (fun z => absurd z.1 (Nat.not_le.mpr hC.2.2.1)) hS hin hd (h H locs cells slots lsR hR hS hL hcc hss)
    · split at h
      · rename_i k0 n0 hk0
        split at h
        · rename_i hkk
          subst hkk
          obtain ⟨hin, h⟩ := h
          obtain ⟨e0, hat⟩ := mw_arr hR hk0
          have hlt : i.toNatClampNeg < n0 := Nat.not_le.mp fun q => hin (Or.inr q)
          show W p l e R s m args below meth cc H locs cells slots Q (F0 m pc lsR (.int i :: .ref (mw_rho G a) :: st0.map (mw_tr G)))
          rw [← e0]
          have hcell : H[G.1 + a]? = some (arrV (G.2.2.1 0) n0 (fun q => .int (M.1 a q))) := hat
          exact W.iald hx hb hcell ((mw_ArrOf hC (j := 0) (by omega)).1 n0 _) (fun q => by cases q) (by rw [arrV_size]; exact hin) (arrV_read _ _ hlt) rfl rfl hd (h H locs cells slots lsR hR hS hL hcc hss)
        · exact h.elim
      · exact h.elim
  · exact h.elim
theorem mw_i_caload (hB : mw_Bd G p s m args meth cc cd) {q : mw_I} {pc : Nat} {ls : List (Option Value)} {st : List Value} {M : mw_Mem} {c sl : Nat} {sc : Nat × (Nat → Int32)} {rt : Option FieldType} {Qr : Option Value → mw_Mem → Prop}  (hq : q.1 = .caload) (hc : mw_chkI cd.1 cd.2.1 pc q = true) (h : mw_app (mw_ins sc rt q pc ls st M c sl) (mw_WF G p l e R s m args below meth cc cd.2.2.1 CT ST Q) Qr) : mw_WF G p l e R s m args below meth cc cd.2.2.1 CT ST Q (pc, ls, st, M, c, sl) := by
  obtain ⟨hx, hb, hml, hr, hlk, hown, hnm, hts, hC⟩ := hB
  obtain ⟨i, len, ⟨r1, r2, r3⟩, ps, y, k⟩ := q
  dsimp only at hq
  subst hq
  unfold mw_chkI at hc
  simp only [Bool.and_eq_true, decide_eq_true_eq] at hc
  obtain ⟨hd, hc⟩ := hc
  have hd := mw_dec_eq hd
  try dsimp only at hd hc
  unfold mw_ins at h
  try dsimp only at h
  intro H locs cells slots lsR hR hS hL hcc hss
  dsimp only at hR hS hL hcc hss ⊢

  obtain rfl := hc
  split at h
  · rename_i i a st0
    split at h
    · rename_i k0 n0 hk0
      split at h
      · rename_i hkk
        subst hkk
        obtain ⟨hin, h⟩ := h
        obtain ⟨e0, hat⟩ := mw_arr hR hk0
        have hlt : i.toNatClampNeg < n0 := Nat.not_le.mp fun q => hin (Or.inr q)
        show W p l e R s m args below meth cc H locs cells slots Q (F0 m pc lsR (.int i :: .ref (mw_rho G a) :: st0.map (mw_tr G)))
        rw [← e0]
        have hcell : H[G.1 + a]? = some (arrV (G.2.2.1 1) n0 (fun q => .int (M.1 a q))) := hat
        exact W.cald hx hb hcell ((mw_ArrOf hC (j := 1) (by omega)).1 n0 _) (fun q => by cases q) (by rw [arrV_size]; exact hin) (arrV_read _ _ hlt) rfl rfl hd (h H locs cells slots lsR hR hS hL hcc hss)
      · exact h.elim
    · exact h.elim
  · exact h.elim
theorem mw_i_baload (hB : mw_Bd G p s m args meth cc cd) {q : mw_I} {pc : Nat} {ls : List (Option Value)} {st : List Value} {M : mw_Mem} {c sl : Nat} {sc : Nat × (Nat → Int32)} {rt : Option FieldType} {Qr : Option Value → mw_Mem → Prop}  (hq : q.1 = .baload) (hc : mw_chkI cd.1 cd.2.1 pc q = true) (h : mw_app (mw_ins sc rt q pc ls st M c sl) (mw_WF G p l e R s m args below meth cc cd.2.2.1 CT ST Q) Qr) : mw_WF G p l e R s m args below meth cc cd.2.2.1 CT ST Q (pc, ls, st, M, c, sl) := by
  obtain ⟨hx, hb, hml, hr, hlk, hown, hnm, hts, hC⟩ := hB
  obtain ⟨i, len, ⟨r1, r2, r3⟩, ps, y, k⟩ := q
  dsimp only at hq
  subst hq
  unfold mw_chkI at hc
  simp only [Bool.and_eq_true, decide_eq_true_eq] at hc
  obtain ⟨hd, hc⟩ := hc
  have hd := mw_dec_eq hd
  try dsimp only at hd hc
  unfold mw_ins at h
  try dsimp only at h
  intro H locs cells slots lsR hR hS hL hcc hss
  dsimp only at hR hS hL hcc hss ⊢

  obtain rfl := hc
  split at h
  · rename_i i a st0
    by_cases ho : mw_oa a = true
    · rw [if_pos ho] at h
      obtain ⟨hin, h⟩ := h
      exact va_tb hx hb (mw_Old_T hC.2.1.2 ho) hS hin rfl hd (h H locs cells slots lsR hR hS hL hcc hss)
    rw [if_neg ho] at h
    split at h
    · rename_i k0 n0 hk0
      split at h
      · rename_i hkk
        subst hkk
        obtain ⟨hin, h⟩ := h
        obtain ⟨e0, hat⟩ := mw_arr hR hk0
        have hlt : i.toNatClampNeg < n0 := Nat.not_le.mp fun q => hin (Or.inr q)
        show W p l e R s m args below meth cc H locs cells slots Q (F0 m pc lsR (.int i :: .ref (mw_rho G a) :: st0.map (mw_tr G)))
        rw [← e0]
        have hcell : H[G.1 + a]? = some (arrV (G.2.2.1 4) n0 (fun q => .int (M.1 a q))) := hat
        exact W.bald hx hb hcell ((mw_ArrOf hC (j := 4) (by omega)).1 n0 _) (fun q => by cases q) (by rw [arrV_size]; exact hin) (arrV_read _ _ hlt) rfl rfl hd (h H locs cells slots lsR hR hS hL hcc hss)
      · exact h.elim
    · exact h.elim
  · exact h.elim
theorem mw_i_laload (hB : mw_Bd G p s m args meth cc cd) {q : mw_I} {pc : Nat} {ls : List (Option Value)} {st : List Value} {M : mw_Mem} {c sl : Nat} {sc : Nat × (Nat → Int32)} {rt : Option FieldType} {Qr : Option Value → mw_Mem → Prop}  (hq : q.1 = .laload) (hc : mw_chkI cd.1 cd.2.1 pc q = true) (h : mw_app (mw_ins sc rt q pc ls st M c sl) (mw_WF G p l e R s m args below meth cc cd.2.2.1 CT ST Q) Qr) : mw_WF G p l e R s m args below meth cc cd.2.2.1 CT ST Q (pc, ls, st, M, c, sl) := by
  obtain ⟨hx, hb, hml, hr, hlk, hown, hnm, hts, hC⟩ := hB
  obtain ⟨i, len, ⟨r1, r2, r3⟩, ps, y, k⟩ := q
  dsimp only at hq
  subst hq
  unfold mw_chkI at hc
  simp only [Bool.and_eq_true, decide_eq_true_eq] at hc
  obtain ⟨hd, hc⟩ := hc
  have hd := mw_dec_eq hd
  try dsimp only at hd hc
  unfold mw_ins at h
  try dsimp only at h
  intro H locs cells slots lsR hR hS hL hcc hss
  dsimp only at hR hS hL hcc hss ⊢

  obtain rfl := hc
  split at h
  · rename_i i a st0
    split at h
    · rename_i k0 n0 hk0
      split at h
      · rename_i hkk
        subst hkk
        obtain ⟨hin, h⟩ := h
        obtain ⟨e0, hat⟩ := mw_arr hR hk0
        have hlt : i.toNatClampNeg < n0 := Nat.not_le.mp fun q => hin (Or.inr q)
        show W p l e R s m args below meth cc H locs cells slots Q (F0 m pc lsR (.int i :: .ref (mw_rho G a) :: st0.map (mw_tr G)))
        rw [← e0]
        exact (mw_noA hat).elim
      · exact h.elim
    · exact h.elim
  · exact h.elim
theorem mw_i_daload (hB : mw_Bd G p s m args meth cc cd) {q : mw_I} {pc : Nat} {ls : List (Option Value)} {st : List Value} {M : mw_Mem} {c sl : Nat} {sc : Nat × (Nat → Int32)} {rt : Option FieldType} {Qr : Option Value → mw_Mem → Prop}  (hq : q.1 = .daload) (hc : mw_chkI cd.1 cd.2.1 pc q = true) (h : mw_app (mw_ins sc rt q pc ls st M c sl) (mw_WF G p l e R s m args below meth cc cd.2.2.1 CT ST Q) Qr) : mw_WF G p l e R s m args below meth cc cd.2.2.1 CT ST Q (pc, ls, st, M, c, sl) := by
  obtain ⟨hx, hb, hml, hr, hlk, hown, hnm, hts, hC⟩ := hB
  obtain ⟨i, len, ⟨r1, r2, r3⟩, ps, y, k⟩ := q
  dsimp only at hq
  subst hq
  unfold mw_chkI at hc
  simp only [Bool.and_eq_true, decide_eq_true_eq] at hc
  obtain ⟨hd, hc⟩ := hc
  have hd := mw_dec_eq hd
  try dsimp only at hd hc
  unfold mw_ins at h
  try dsimp only at h
  intro H locs cells slots lsR hR hS hL hcc hss
  dsimp only at hR hS hL hcc hss ⊢

  obtain rfl := hc
  split at h
  · rename_i i a st0
    split at h
    · rename_i k0 n0 hk0
      split at h
      · rename_i hkk
        subst hkk
        obtain ⟨hin, h⟩ := h
        obtain ⟨e0, hat⟩ := mw_arr hR hk0
        have hlt : i.toNatClampNeg < n0 := Nat.not_le.mp fun q => hin (Or.inr q)
        show W p l e R s m args below meth cc H locs cells slots Q (F0 m pc lsR (.int i :: .ref (mw_rho G a) :: st0.map (mw_tr G)))
        rw [← e0]
        exact (mw_noA hat).elim
      · exact h.elim
    · exact h.elim
  · exact h.elim
theorem mw_i_aaload (hB : mw_Bd G p s m args meth cc cd) {q : mw_I} {pc : Nat} {ls : List (Option Value)} {st : List Value} {M : mw_Mem} {c sl : Nat} {sc : Nat × (Nat → Int32)} {rt : Option FieldType} {Qr : Option Value → mw_Mem → Prop}  (hq : q.1 = .aaload) (hc : mw_chkI cd.1 cd.2.1 pc q = true) (h : mw_app (mw_ins sc rt q pc ls st M c sl) (mw_WF G p l e R s m args below meth cc cd.2.2.1 CT ST Q) Qr) : mw_WF G p l e R s m args below meth cc cd.2.2.1 CT ST Q (pc, ls, st, M, c, sl) := by
  obtain ⟨hx, hb, hml, hr, hlk, hown, hnm, hts, hC⟩ := hB
  obtain ⟨i, len, ⟨r1, r2, r3⟩, ps, y, k⟩ := q
  dsimp only at hq
  subst hq
  unfold mw_chkI at hc
  simp only [Bool.and_eq_true, decide_eq_true_eq] at hc
  obtain ⟨hd, hc⟩ := hc
  have hd := mw_dec_eq hd
  try dsimp only at hd hc
  unfold mw_ins at h
  try dsimp only at h
  intro H locs cells slots lsR hR hS hL hcc hss
  dsimp only at hR hS hL hcc hss ⊢

  obtain rfl := hc
  split at h
  · rename_i i a st0
    split at h
    · rename_i k0 n0 hk0
      split at h
      · rename_i hkk
        obtain ⟨hin, h⟩ := h
        obtain ⟨e0, hat⟩ := mw_arr hR hk0
        have hlt : i.toNatClampNeg < n0 := Nat.not_le.mp fun q => hin (Or.inr q)
        show W p l e R s m args below meth cc H locs cells slots Q (F0 m pc lsR (.int i :: .ref (mw_rho G a) :: st0.map (mw_tr G)))
        rw [← e0]
        have hh := h H locs cells slots lsR hR hS hL hcc hss
        rw [show ((pc + 1, ls, mw_rv (M.2.2.2.1 a i.toNatClampNeg) :: st0, M, c, sl) : mw_Fr).2.2.1.map (mw_tr G) = va_rf ((M.2.2.2.1 a i.toNatClampNeg).map (mw_rho G)) :: st0.map (mw_tr G) by show mw_tr G (mw_rv _) :: _ = _; rw [mw_tr_rv]] at hh
        rcases hkk with rfl | rfl
        · have hcell : H[G.1 + a]? = some (arrV (G.2.2.1 5) n0 (fun q => va_rf ((M.2.2.2.1 a q).map (mw_rho G)))) := hat
          exact W.aald hx hb hcell ((mw_ArrOf hC (j := 5) (by omega)).1 n0 _) rfl (fun q => by cases q) (by rw [arrV_size]; exact hin) (arrV_read _ _ hlt) rfl rfl hd hh
        · have hcell : H[G.1 + a]? = some (arrV (G.2.2.1 6) n0 (fun q => va_rf ((M.2.2.2.1 a q).map (mw_rho G)))) := hat
          exact W.aald hx hb hcell ((mw_ArrOf hC (j := 6) (by omega)).1 n0 _) rfl (fun q => by cases q) (by rw [arrV_size]; exact hin) (arrV_read _ _ hlt) rfl rfl hd hh
      · split at h
        · rename_i hkk
          subst hkk
          obtain ⟨hin, h⟩ := h
          obtain ⟨e0, hat⟩ := mw_arr hR hk0
          have hlt : i.toNatClampNeg < n0 := Nat.not_le.mp fun q => hin (Or.inr q)
          show W p l e R s m args below meth cc H locs cells slots Q (F0 m pc lsR (.int i :: .ref (mw_rho G a) :: st0.map (mw_tr G)))
          rw [← e0]
          have hh := h H locs cells slots lsR hR hS hL hcc hss
          rw [show ((pc + 1, ls, mw_rv (M.2.2.2.1 a i.toNatClampNeg) :: st0, M, c, sl) : mw_Fr).2.2.1.map (mw_tr G) = va_rf ((M.2.2.2.1 a i.toNatClampNeg).map (mw_rho G)) :: st0.map (mw_tr G) by show mw_tr G (mw_rv _) :: _ = _; rw [mw_tr_rv]] at hh
          have hcell : H[G.1 + a]? = some (arrV (G.2.2.1 7) n0 (fun q => va_rf ((M.2.2.2.1 a q).map (mw_rho G)))) := hat
          exact W.aald hx hb hcell ((mw_ArrOf hC (j := 7) (by omega)).1 n0 _) rfl (fun q => by cases q) (by rw [arrV_size]; exact hin) (arrV_read _ _ hlt) rfl rfl hd hh
        · exact h.elim
    · split at h
      · rename_i hz
        subst hz
        obtain ⟨hin, h⟩ := h
        exact vb_tq hx hb hC.2.2.2.2.2.2.2.2.2.2.2.1 hS hin rfl hd (h H locs cells slots lsR hR hS hL hcc hss)
      · exact h.elim
  · exact h.elim
theorem mw_i_iastore (hB : mw_Bd G p s m args meth cc cd) {q : mw_I} {pc : Nat} {ls : List (Option Value)} {st : List Value} {M : mw_Mem} {c sl : Nat} {sc : Nat × (Nat → Int32)} {rt : Option FieldType} {Qr : Option Value → mw_Mem → Prop}  (hq : q.1 = .iastore) (hc : mw_chkI cd.1 cd.2.1 pc q = true) (h : mw_app (mw_ins sc rt q pc ls st M c sl) (mw_WF G p l e R s m args below meth cc cd.2.2.1 CT ST Q) Qr) : mw_WF G p l e R s m args below meth cc cd.2.2.1 CT ST Q (pc, ls, st, M, c, sl) := by
  obtain ⟨hx, hb, hml, hr, hlk, hown, hnm, hts, hC⟩ := hB
  obtain ⟨i, len, ⟨r1, r2, r3⟩, ps, y, k⟩ := q
  dsimp only at hq
  subst hq
  unfold mw_chkI at hc
  simp only [Bool.and_eq_true, decide_eq_true_eq] at hc
  obtain ⟨hd, hc⟩ := hc
  have hd := mw_dec_eq hd
  try dsimp only at hd hc
  unfold mw_ins at h
  try dsimp only at h
  intro H locs cells slots lsR hR hS hL hcc hss
  dsimp only at hR hS hL hcc hss ⊢

  obtain rfl := hc
  split at h
  · rename_i x i a st0
    split at h
    · rename_i k0 n0 hk0
      split at h
      · rename_i hkk
        subst hkk
        obtain ⟨hin, h⟩ := h
        obtain ⟨e0, hat⟩ := mw_arr hR hk0
        show W p l e R s m args below meth cc H locs cells slots Q (F0 m pc lsR (.int x :: .int i :: .ref (mw_rho G a) :: st0.map (mw_tr G)))
        rw [← e0]
        have hcell : H[G.1 + a]? = some (arrV (G.2.2.1 0) n0 (fun q => .int (M.1 a q))) := hat
        refine W.iast hx hb hcell ((mw_ArrOf hC (j := 0) (by omega)).1 n0 _) (fun q => by cases q) (by rw [arrV_size]; exact hin) rfl rfl hd fun H1 e1 z oq => ?_
        refine h H1 _ cells slots lsR (mw_Rel_set hR rfl mw_cI (fun k hk => ?_) z oq) (hS.put z oq (mw_inA hR hk0)) hL hcc hss
        cases hk0.symm.trans hk
        show H1[G.1 + a]? = some (arrV (G.2.2.1 0) n0 (fun q => .int (mw_u M.1 a i.toNatClampNeg x a q)))
        rw [e1, arrV_store]
        congr 2
        funext q
        unfold updV mw_u
        rw [if_pos rfl]
        split <;> first | rfl | simp_all
      · exact h.elim
    · exact h.elim
  · exact h.elim
theorem mw_i_castore (hB : mw_Bd G p s m args meth cc cd) {q : mw_I} {pc : Nat} {ls : List (Option Value)} {st : List Value} {M : mw_Mem} {c sl : Nat} {sc : Nat × (Nat → Int32)} {rt : Option FieldType} {Qr : Option Value → mw_Mem → Prop}  (hq : q.1 = .castore) (hc : mw_chkI cd.1 cd.2.1 pc q = true) (h : mw_app (mw_ins sc rt q pc ls st M c sl) (mw_WF G p l e R s m args below meth cc cd.2.2.1 CT ST Q) Qr) : mw_WF G p l e R s m args below meth cc cd.2.2.1 CT ST Q (pc, ls, st, M, c, sl) := by
  obtain ⟨hx, hb, hml, hr, hlk, hown, hnm, hts, hC⟩ := hB
  obtain ⟨i, len, ⟨r1, r2, r3⟩, ps, y, k⟩ := q
  dsimp only at hq
  subst hq
  unfold mw_chkI at hc
  simp only [Bool.and_eq_true, decide_eq_true_eq] at hc
  obtain ⟨hd, hc⟩ := hc
  have hd := mw_dec_eq hd
  try dsimp only at hd hc
  unfold mw_ins at h
  try dsimp only at h
  intro H locs cells slots lsR hR hS hL hcc hss
  dsimp only at hR hS hL hcc hss ⊢

  obtain rfl := hc
  split at h
  · rename_i x i a st0
    split at h
    · rename_i k0 n0 hk0
      split at h
      · rename_i hkk
        subst hkk
        obtain ⟨hin, h⟩ := h
        obtain ⟨e0, hat⟩ := mw_arr hR hk0
        show W p l e R s m args below meth cc H locs cells slots Q (F0 m pc lsR (.int x :: .int i :: .ref (mw_rho G a) :: st0.map (mw_tr G)))
        rw [← e0]
        have hcell : H[G.1 + a]? = some (arrV (G.2.2.1 1) n0 (fun q => .int (M.1 a q))) := hat
        refine W.cast hx hb hcell ((mw_ArrOf hC (j := 1) (by omega)).1 n0 _) (fun q => by cases q) (by rw [arrV_size]; exact hin) rfl rfl hd fun H1 e1 z oq => ?_
        refine h H1 _ cells slots lsR (mw_Rel_set hR rfl mw_cI (fun k hk => ?_) z oq) (hS.put z oq (mw_inA hR hk0)) hL hcc hss
        cases hk0.symm.trans hk
        show H1[G.1 + a]? = some (arrV (G.2.2.1 1) n0 (fun q => .int (mw_u M.1 a i.toNatClampNeg (vp_nar .char x) a q)))
        rw [e1, arrV_store]
        congr 2
        funext q
        unfold updV mw_u
        rw [if_pos rfl]
        split <;> first | rfl | simp_all
      · exact h.elim
    · exact h.elim
  · exact h.elim
theorem mw_i_bastore (hB : mw_Bd G p s m args meth cc cd) {q : mw_I} {pc : Nat} {ls : List (Option Value)} {st : List Value} {M : mw_Mem} {c sl : Nat} {sc : Nat × (Nat → Int32)} {rt : Option FieldType} {Qr : Option Value → mw_Mem → Prop}  (hq : q.1 = .bastore) (hc : mw_chkI cd.1 cd.2.1 pc q = true) (h : mw_app (mw_ins sc rt q pc ls st M c sl) (mw_WF G p l e R s m args below meth cc cd.2.2.1 CT ST Q) Qr) : mw_WF G p l e R s m args below meth cc cd.2.2.1 CT ST Q (pc, ls, st, M, c, sl) := by
  obtain ⟨hx, hb, hml, hr, hlk, hown, hnm, hts, hC⟩ := hB
  obtain ⟨i, len, ⟨r1, r2, r3⟩, ps, y, k⟩ := q
  dsimp only at hq
  subst hq
  unfold mw_chkI at hc
  simp only [Bool.and_eq_true, decide_eq_true_eq] at hc
  obtain ⟨hd, hc⟩ := hc
  have hd := mw_dec_eq hd
  try dsimp only at hd hc
  unfold mw_ins at h
  try dsimp only at h
  intro H locs cells slots lsR hR hS hL hcc hss
  dsimp only at hR hS hL hcc hss ⊢

  obtain rfl := hc
  split at h
  · rename_i x i a st0
    split at h
    · rename_i k0 n0 hk0
      split at h
      · rename_i hkk
        subst hkk
        obtain ⟨hin, h⟩ := h
        obtain ⟨e0, hat⟩ := mw_arr hR hk0
        show W p l e R s m args below meth cc H locs cells slots Q (F0 m pc lsR (.int x :: .int i :: .ref (mw_rho G a) :: st0.map (mw_tr G)))
        rw [← e0]
        have hcell : H[G.1 + a]? = some (arrV (G.2.2.1 4) n0 (fun q => .int (M.1 a q))) := hat
        refine W.bast hx hb hcell ((mw_ArrOf hC (j := 4) (by omega)).1 n0 _) (fun q => by cases q) (by rw [arrV_size]; exact hin) rfl rfl hd fun H1 e1 z oq => ?_
        refine h H1 _ cells slots lsR (mw_Rel_set hR rfl mw_cI (fun k hk => ?_) z oq) (hS.put z oq (mw_inA hR hk0)) hL hcc hss
        cases hk0.symm.trans hk
        show H1[G.1 + a]? = some (arrV (G.2.2.1 4) n0 (fun q => .int (mw_u M.1 a i.toNatClampNeg (vp_nar .byte x) a q)))
        rw [e1, arrV_store]
        congr 2
        funext q
        unfold updV mw_u
        rw [if_pos rfl]
        split <;> first | rfl | simp_all
      · exact h.elim
    · exact h.elim
  · exact h.elim
theorem mw_i_lastore (hB : mw_Bd G p s m args meth cc cd) {q : mw_I} {pc : Nat} {ls : List (Option Value)} {st : List Value} {M : mw_Mem} {c sl : Nat} {sc : Nat × (Nat → Int32)} {rt : Option FieldType} {Qr : Option Value → mw_Mem → Prop}  (hq : q.1 = .lastore) (hc : mw_chkI cd.1 cd.2.1 pc q = true) (h : mw_app (mw_ins sc rt q pc ls st M c sl) (mw_WF G p l e R s m args below meth cc cd.2.2.1 CT ST Q) Qr) : mw_WF G p l e R s m args below meth cc cd.2.2.1 CT ST Q (pc, ls, st, M, c, sl) := by
  obtain ⟨hx, hb, hml, hr, hlk, hown, hnm, hts, hC⟩ := hB
  obtain ⟨i, len, ⟨r1, r2, r3⟩, ps, y, k⟩ := q
  dsimp only at hq
  subst hq
  unfold mw_chkI at hc
  simp only [Bool.and_eq_true, decide_eq_true_eq] at hc
  obtain ⟨hd, hc⟩ := hc
  have hd := mw_dec_eq hd
  try dsimp only at hd hc
  unfold mw_ins at h
  try dsimp only at h
  intro H locs cells slots lsR hR hS hL hcc hss
  dsimp only at hR hS hL hcc hss ⊢

  obtain rfl := hc
  split at h
  · rename_i x i a st0
    split at h
    · rename_i k0 n0 hk0
      split at h
      · rename_i hkk
        subst hkk
        obtain ⟨hin, h⟩ := h
        obtain ⟨e0, hat⟩ := mw_arr hR hk0
        show W p l e R s m args below meth cc H locs cells slots Q (F0 m pc lsR (.long x :: .int i :: .ref (mw_rho G a) :: st0.map (mw_tr G)))
        rw [← e0]
        exact (mw_noA hat).elim
      · exact h.elim
    · exact h.elim
  · exact h.elim
theorem mw_i_dastore (hB : mw_Bd G p s m args meth cc cd) {q : mw_I} {pc : Nat} {ls : List (Option Value)} {st : List Value} {M : mw_Mem} {c sl : Nat} {sc : Nat × (Nat → Int32)} {rt : Option FieldType} {Qr : Option Value → mw_Mem → Prop}  (hq : q.1 = .dastore) (hc : mw_chkI cd.1 cd.2.1 pc q = true) (h : mw_app (mw_ins sc rt q pc ls st M c sl) (mw_WF G p l e R s m args below meth cc cd.2.2.1 CT ST Q) Qr) : mw_WF G p l e R s m args below meth cc cd.2.2.1 CT ST Q (pc, ls, st, M, c, sl) := by
  obtain ⟨hx, hb, hml, hr, hlk, hown, hnm, hts, hC⟩ := hB
  obtain ⟨i, len, ⟨r1, r2, r3⟩, ps, y, k⟩ := q
  dsimp only at hq
  subst hq
  unfold mw_chkI at hc
  simp only [Bool.and_eq_true, decide_eq_true_eq] at hc
  obtain ⟨hd, hc⟩ := hc
  have hd := mw_dec_eq hd
  try dsimp only at hd hc
  unfold mw_ins at h
  try dsimp only at h
  intro H locs cells slots lsR hR hS hL hcc hss
  dsimp only at hR hS hL hcc hss ⊢

  obtain rfl := hc
  split at h
  · rename_i x i a st0
    split at h
    · rename_i k0 n0 hk0
      split at h
      · rename_i hkk
        subst hkk
        obtain ⟨hin, h⟩ := h
        obtain ⟨e0, hat⟩ := mw_arr hR hk0
        show W p l e R s m args below meth cc H locs cells slots Q (F0 m pc lsR (.double x :: .int i :: .ref (mw_rho G a) :: st0.map (mw_tr G)))
        rw [← e0]
        exact (mw_noA hat).elim
      · exact h.elim
    · exact h.elim
  · exact h.elim
theorem mw_i_aastore (hB : mw_Bd G p s m args meth cc cd) {q : mw_I} {pc : Nat} {ls : List (Option Value)} {st : List Value} {M : mw_Mem} {c sl : Nat} {sc : Nat × (Nat → Int32)} {rt : Option FieldType} {Qr : Option Value → mw_Mem → Prop}  (hq : q.1 = .aastore) (hc : mw_chkI cd.1 cd.2.1 pc q = true) (h : mw_app (mw_ins sc rt q pc ls st M c sl) (mw_WF G p l e R s m args below meth cc cd.2.2.1 CT ST Q) Qr) : mw_WF G p l e R s m args below meth cc cd.2.2.1 CT ST Q (pc, ls, st, M, c, sl) := by
  obtain ⟨hx, hb, hml, hr, hlk, hown, hnm, hts, hC⟩ := hB
  obtain ⟨i, len, ⟨r1, r2, r3⟩, ps, y, k⟩ := q
  dsimp only at hq
  subst hq
  unfold mw_chkI at hc
  simp only [Bool.and_eq_true, decide_eq_true_eq] at hc
  obtain ⟨hd, hc⟩ := hc
  have hd := mw_dec_eq hd
  try dsimp only at hd hc
  unfold mw_ins at h
  try dsimp only at h
  intro H locs cells slots lsR hR hS hL hcc hss
  dsimp only at hR hS hL hcc hss ⊢

  obtain rfl := hc
  split at h
  · rename_i x i a st0
    split at h
    · rename_i k0 n0 k1 n1 hk0 hk1
      split at h
      · rename_i hkk
        obtain ⟨rfl, rfl⟩ := hkk
        obtain ⟨hin, h⟩ := h
        obtain ⟨e0, hat⟩ := mw_arr hR hk0
        obtain ⟨e1, hat1⟩ := mw_arr hR hk1
        have hlt : i.toNatClampNeg < n0 := Nat.not_le.mp fun q => hin (Or.inr q)
        have h0 : ¬ i < 0 := fun q => hin (Or.inl q)
        show W p l e R s m args below meth cc H locs cells slots Q (F0 m pc lsR (.ref (mw_rho G x) :: .int i :: .ref (mw_rho G a) :: st0.map (mw_tr G)))
        have hr8 : vwCl[12]? = some (RX8, TX8, 6) := rfl
        rw [mw_cell_obj hr8] at hat1
        obtain ⟨r', hr', cellV, g1, g2, g3, -⟩ := hat1
        have hcls := (hC.1.1 12 _ hr8).2
        obtain ⟨kA, comp, k1, k2, k3, -⟩ := (mw_ArrOf hC (j := 5) (by omega)).2
        have hcomp : comp = G.2.1.1 12 := Option.some.inj (k3.symm.trans hcls.1)
        subst hcomp
        obtain ⟨kC, hkC, hkk9⟩ := hcls.2
        have hcell : H[G.1 + a]? = some (arrV (G.2.2.1 5) n0 (fun q => va_rf ((M.2.2.2.1 a q).map (mw_rho G)))) := hat
        rw [← e0, ← e1]
        refine W.aast hx hb hcell (fun q h => by cases h) (fun h => by cases h) k1 k2 rfl hkC ⟨h0, by rw [arrV_size]; exact hlt⟩ g1 (fun q h => by rw [g3] at h; cases h) (by rw [g2]; exact hkC) (by rw [g2]; exact va_assign hcls) rfl rfl hd fun H1 e2 z oq => ?_
        refine h H1 _ cells slots lsR (mw_Rel_set hR rfl mw_cR (fun k hk => ?_) z oq) (hS.put z oq (mw_inA hR hk0)) hL hcc hss
        cases hk0.symm.trans hk
        show H1[G.1 + a]? = some (arrV (G.2.2.1 5) n0 (fun q => va_rf ((mw_u M.2.2.2.1 a i.toNatClampNeg (some x) a q).map (mw_rho G))))
        rw [e2, arrV_store]
        congr 2
        funext q
        unfold updV mw_u
        rw [if_pos rfl]
        split <;> first | exact congrArg Value.ref e1 | rfl | simp_all
      · exact h.elim
    · rename_i k0 n0 hk0 hk1
      split at h
      · rename_i hkk
        obtain ⟨rfl, hz0⟩ := hkk
        obtain ⟨hin, h⟩ := h
        obtain ⟨e0, hat⟩ := mw_arr hR hk0
        obtain ⟨k9, hk9, rfl⟩ := mw_o500 hz0
        have hlt : i.toNatClampNeg < n0 := Nat.not_le.mp fun q => hin (Or.inr q)
        have h0 : ¬ i < 0 := fun q => hin (Or.inl q)
        show W p l e R s m args below meth cc H locs cells slots Q (F0 m pc lsR (.ref (mw_rho G (1000500 + k9)) :: .int i :: .ref (mw_rho G a) :: st0.map (mw_tr G)))
        obtain ⟨cellV, g1, g3, g2, -⟩ := (hC.2.2.2.2.2.2.2.2.2.2.2.2.1.1 k9 hk9).kept hS.2.1
        obtain ⟨kA, comp, k1, k2, k3, -⟩ := (mw_ArrOf hC (j := 7) (by omega)).2
        obtain ⟨kE, hkE, -⟩ := Vm.findClass_spec k3
        obtain ⟨kC, hkC, -⟩ := Vm.findClass_spec g2
        have hca : va_Nw (.castable "java/lang/Integer" "java/lang/Object") s := hC.2.2.2.2.1 _ (mw_wn_in (i := 9001) (by decide +kernel))
        have hcell : H[G.1 + a]? = some (arrV (G.2.2.1 7) n0 (fun q => va_rf ((M.2.2.2.1 a q).map (mw_rho G)))) := hat
        rw [← e0]
        refine W.aast hx hb hcell (fun q h => by cases h) (fun h => by cases h) k1 k2 rfl hkE ⟨h0, by rw [arrV_size]; exact hlt⟩ g1 (fun q h => by rw [h] at g3; cases g3) hkC (vb_asgC hca _ _ k3 g2) rfl rfl hd fun H1 e2 z oq => ?_
        refine h H1 _ cells slots lsR (mw_Rel_set hR rfl mw_cR (fun k hk => ?_) z oq) (hS.put z oq (mw_inA hR hk0)) hL hcc hss
        cases hk0.symm.trans hk
        show H1[G.1 + a]? = some (arrV (G.2.2.1 7) n0 (fun q => va_rf ((mw_u M.2.2.2.1 a i.toNatClampNeg (some (1000500 + k9)) a q).map (mw_rho G))))
        rw [e2, arrV_store]
        congr 2
        funext q
        unfold updV mw_u
        rw [if_pos rfl]
        split <;> first | rfl | simp_all
      · exact h.elim
    · exact h.elim
  · exact h.elim
theorem mw_i_arraylength (hB : mw_Bd G p s m args meth cc cd) {q : mw_I} {pc : Nat} {ls : List (Option Value)} {st : List Value} {M : mw_Mem} {c sl : Nat} {sc : Nat × (Nat → Int32)} {rt : Option FieldType} {Qr : Option Value → mw_Mem → Prop} (hsc : sc = G.2.2.2.2) (hq : q.1 = .arraylength) (hc : mw_chkI cd.1 cd.2.1 pc q = true) (h : mw_app (mw_ins sc rt q pc ls st M c sl) (mw_WF G p l e R s m args below meth cc cd.2.2.1 CT ST Q) Qr) : mw_WF G p l e R s m args below meth cc cd.2.2.1 CT ST Q (pc, ls, st, M, c, sl) := by
  obtain ⟨hx, hb, hml, hr, hlk, hown, hnm, hts, hC⟩ := hB
  obtain ⟨i, len, ⟨r1, r2, r3⟩, ps, y, k⟩ := q
  dsimp only at hq
  subst hq
  unfold mw_chkI at hc
  simp only [Bool.and_eq_true, decide_eq_true_eq] at hc
  obtain ⟨hd, hc⟩ := hc
  have hd := mw_dec_eq hd
  try dsimp only at hd hc
  unfold mw_ins at h
  try dsimp only at h
  intro H locs cells slots lsR hR hS hL hcc hss
  dsimp only at hR hS hL hcc hss ⊢

  subst hsc
  obtain rfl := hc
  split at h
  · rename_i a st0
    split at h
    · rename_i ha
      subst ha
      exact va_slen hx hb hC.2.1.1 (Nat.lt_of_lt_of_le hC.2.2.1 hC.2.2.2.1.1) (fun z => absurd z.1 (Nat.not_le.mpr hC.2.2.1)) hS hd (h H locs cells slots lsR hR hS hL hcc hss)
    · by_cases ho : mw_oa a = true
      · rw [if_pos ho] at h
        exact va_tlen hx hb (mw_Old_T hC.2.1.2 ho) hS rfl hd (h H locs cells slots lsR hR hS hL hcc hss)
      rw [if_neg ho] at h
      split at h
      · rename_i k0 n0 hk0
        split at h
        · rename_i hkk
          obtain ⟨e0, hat⟩ := mw_arr hR hk0
          show W p l e R s m args below meth cc H locs cells slots Q (F0 m pc lsR (.ref (mw_rho G a) :: st0.map (mw_tr G)))
          rw [← e0]
          have hz : ∃ f : Nat → Value, H[G.1 + a]? = some (arrV (G.2.2.1 (k0 - 20)) n0 f) := by
            obtain ⟨z1, z2⟩ := hkk
            rcases (show k0 = 20 ∨ k0 = 21 ∨ k0 = 22 ∨ k0 = 23 ∨ k0 = 24 ∨ k0 = 25 ∨ k0 = 26 by omega) with rfl | rfl | rfl | rfl | rfl | rfl | rfl
            · exact ⟨fun q => .int (M.1 a q), hat⟩
            · exact ⟨fun q => .int (M.1 a q), hat⟩
            · exact (mw_noA hat).elim
            · exact (mw_noA hat).elim
            · exact ⟨fun q => .int (M.1 a q), hat⟩
            · exact ⟨fun q => va_rf ((M.2.2.2.1 a q).map (mw_rho G)), hat⟩
            · exact ⟨fun q => va_rf ((M.2.2.2.1 a q).map (mw_rho G)), hat⟩
          obtain ⟨f, hcell⟩ := hz
          exact W.alen hx hb hcell ((mw_ArrOf hC (j := k0 - 20) (by omega)).1 n0 f) (by rw [arrV_size]) rfl rfl hd (h H locs cells slots lsR hR hS hL hcc hss)
        · split at h
          · rename_i hkk
            subst hkk
            obtain ⟨e0, hat⟩ := mw_arr hR hk0
            show W p l e R s m args below meth cc H locs cells slots Q (F0 m pc lsR (.ref (mw_rho G a) :: st0.map (mw_tr G)))
            rw [← e0]
            have hcell : H[G.1 + a]? = some (arrV (G.2.2.1 7) n0 (fun q => va_rf ((M.2.2.2.1 a q).map (mw_rho G)))) := hat
            exact W.alen hx hb hcell ((mw_ArrOf hC (j := 7) (by omega)).1 n0 _) (by rw [arrV_size]) rfl rfl hd (h H locs cells slots lsR hR hS hL hcc hss)
          · exact h.elim
      · split at h
        · rename_i hz
          subst hz
          exact va_tlen hx hb hC.2.2.2.2.2.2.2.2.2.2.2.2.2.1 hS rfl hd (h H locs cells slots lsR hR hS hL hcc hss)
        · exact h.elim
  · exact h.elim
end
