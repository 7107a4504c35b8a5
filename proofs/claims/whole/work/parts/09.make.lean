/-! the instructions that make cells, and the returns -/
section
variable {G : mw_G} {p : Program} {l : Launch} {e : Env} {R : Room} {s : State} {m : MethodId} {args : Array Value} {below : List Frame} {meth : Method} {cc : Code} {cd : mw_CD} {CT ST : Nat} {Q : State → Prop}
theorem mw_def0 {k : Nat} {r : vw_C} (hk : vwCl[k]? = some r) {j : Nat} (hj : j < r.2.2) (M : mw_Mem) (q : Nat × Nat) : defaultValue (mw_ty0 r j) = mw_fv G (mw_ncell M q) k M.2.2.2.2.2 j := by
  have h0 := mw_cls_ty k r hk j hj
  unfold mw_fv mw_tag
  rw [hk]
  dsimp only
  unfold mw_tyok at h0
  unfold mw_ty0 mw_gv mw_ncell mw_z
  split at h0
  · rename_i e9
    simp only [decide_eq_true_eq] at h0
    rw [e9, h0]; simp [defaultValue, mw_tr]
  · rename_i e9
    simp only [decide_eq_true_eq] at h0
    rw [e9, h0]; simp [defaultValue, mw_tr]
  · rename_i e9
    simp only [decide_eq_true_eq] at h0
    rw [e9, h0]; simp [defaultValue, mw_tr]
  · rename_i e9
    simp only [decide_eq_true_eq] at h0
    rw [e9, h0]; simp [defaultValue, mw_tr]
  · rename_i e9
    simp only [decide_eq_true_eq] at h0
    rw [e9, h0]; simp [defaultValue, mw_tr, mw_rv]
  · rename_i e9
    simp only [decide_eq_true_eq] at h0
    rw [e9, h0]; simp [defaultValue, mw_tr, mw_rv]
  · cases h0
theorem mw_cN {M : mw_Mem} {q : Nat × Nat} : ∀ x, x ≠ M.2.2.2.2.2 → ∀ k9 n9, mw_cell G (mw_ncell M q) k9 n9 x = mw_cell G M k9 n9 x := fun _ hx _ _ => mw_cell_congr (mw_z_ne _ _ hx) (mw_z_ne _ _ hx) (mw_z_ne _ _ hx) (mw_z_ne _ _ hx)
theorem mw_push (H : Heap) (x : Cell) : (H.push x)[H.size]? = some x ∧ (H.push x).size = H.size + 1 ∧ ∀ q : Nat, q < H.size → (H.push x)[q]? = H[q]? := by
  refine ⟨by simp, by simp, fun q hq => ?_⟩
  rw [Array.getElem?_push, if_neg (by omega)]
theorem mw_wb {H : Heap} {locs : List Loc} {cells slots : Nat} {g : JFrame} (k : H.size ≤ s.heap.size + cells → W p l e R s m args below meth cc H locs cells slots Q g) : W p l e R s m args below meth cc H locs cells slots Q g := fun T hT X => k (by have h := X.heapSize; rw [hT] at h; exact h) T hT X
theorem mw_top {M : mw_Mem} {H : Heap} {cells c : Nat} (hroom : CT ≤ R.cells ∧ ST ≤ R.slots ∧ s.heap.size + R.cells ≤ G.1 + 900000) (hR : mw_Rel G M H) (hcc : cells + c = CT) (h1 : H.size ≤ s.heap.size + cells) : M.2.2.2.2.2 < 1000000 ∧ H.size = mw_rho G M.2.2.2.2.2 := by
  have h2 := hR.1
  have h3 : M.2.2.2.2.2 < 1000000 := by omega
  exact ⟨h3, by rw [mw_rho_lt h3]; exact h2⟩
theorem mw_S_new {H H1 : Heap} {locs : List Loc} (hS : va_S (fun q => G.1 ≤ q) s.heap H locs) (z : H1.size = H.size + 1) (o : ∀ q : Nat, q < H.size → H1[q]? = H[q]?) : va_S (fun q => G.1 ≤ q) s.heap H1 locs :=
  ⟨Nat.le_trans hS.1 (by omega), fun x h1 h2 => (o x (Nat.lt_of_lt_of_le h1 hS.1)).trans (hS.2.1 x h1 h2), hS.2.2⟩
theorem mw_i_new (hB : mw_Bd G p s m args meth cc cd) {q : mw_I} {pc : Nat} {ls : List (Option Value)} {st : List Value} {M : mw_Mem} {c sl : Nat} {sc : Nat × (Nat → Int32)} {rt : Option FieldType} {Qr : Option Value → mw_Mem → Prop} {n : Nat} (hroom : CT ≤ R.cells ∧ ST ≤ R.slots ∧ s.heap.size + R.cells ≤ G.1 + 900000) (hq : q.1 = .new n) (hc : mw_chkI cd.1 cd.2.1 pc q = true) (h : mw_app (mw_ins sc rt q pc ls st M c sl) (mw_WF G p l e R s m args below meth cc cd.2.2.1 CT ST Q) Qr) : mw_WF G p l e R s m args below meth cc cd.2.2.1 CT ST Q (pc, ls, st, M, c, sl) := by
  obtain ⟨hx, hb, hml, hr, hlk, hown, hnm, hts, hC⟩ := hB
  obtain ⟨i, len, ⟨r1, r2, r3⟩, ps, y, k⟩ := q
  dsimp only at hq
  subst hq
  unfold mw_chkI at hc
  simp only [Bool.and_eq_true, decide_eq_true_eq] at hc
  obtain ⟨hd, hc⟩ := hc
  have hd := mw_dec_eq hd
  try dsimp only at hd hc
  unfold mw_ins at h
  try dsimp only at h
  intro H locs cells slots lsR hR hS hL hcc hss
  dsimp only at hR hS hL hcc hss ⊢

  split at h
  · rename_i hif
    obtain ⟨rfl, h1c, h2c⟩ := hif
    simp only [Bool.and_eq_true] at hc
    split at hc
    · rename_i r hr
      simp only [Bool.and_eq_true, decide_eq_true_eq] at hc
      obtain ⟨⟨⟨⟨rfl, rfl⟩, c1⟩, c2⟩, c3⟩ := hc
      refine mw_wb (fun hbd => ?_)
      obtain ⟨hlt, hz⟩ := mw_top hroom hR hcc hbd
      have hKn := hC.1.1 r1 r hr
      refine W.newcK (H := H) hx hb hown (hts _ (mw_wd_in c1)) (hts _ (mw_wd_in c2)) (hts _ (mw_wd_in c3)) rfl hd (by omega) (by omega) hKn.2.1 rfl (fun H1 kC hkC e1 z1 o1 => ?_)
      have hfs : ∀ j, j < r.2.2 → defaultValue (mw_ty0 r j) = vp_V ((List.range r.2.2).map (mw_fv G (mw_ncell M (r1, r.2.2)) r1 M.2.2.2.2.2)) j := by
        intro j hj
        unfold vp_V
        rw [List.getD_eq_getElem?_getD, List.getElem?_map, List.getElem?_range hj]
        exact mw_def0 hr hj M _
      have hR1 : mw_Rel G (mw_ncell M (r1, r.2.2)) H1 := mw_Rel_new hR (by have := mw_cls_lt hr; show r1 < 27; omega) hlt rfl rfl mw_cN (by
        rw [mw_cell_obj hr]
        exact ⟨r, hr, (u_born (mw_ty0 r) hts (mw_cls_ws r1 r hr) hKn hkC e1 (mw_ty0_ok hr)).to hfs⟩) z1 o1
      have hh := h H1 locs (cells + 1) (slots + r.2.2) lsR hR1 (mw_S_new hS z1 o1) hL (by dsimp only; omega) (by dsimp only; omega)
      dsimp only at hh ⊢
      rw [hz]
      exact hh
    · cases hc
  · exact h.elim
theorem mw_i_newarray (hB : mw_Bd G p s m args meth cc cd) {q : mw_I} {pc : Nat} {ls : List (Option Value)} {st : List Value} {M : mw_Mem} {c sl : Nat} {sc : Nat × (Nat → Int32)} {rt : Option FieldType} {Qr : Option Value → mw_Mem → Prop} {t : ArrayType} (hroom : CT ≤ R.cells ∧ ST ≤ R.slots ∧ s.heap.size + R.cells ≤ G.1 + 900000) (hq : q.1 = .newarray t) (hc : mw_chkI cd.1 cd.2.1 pc q = true) (h : mw_app (mw_ins sc rt q pc ls st M c sl) (mw_WF G p l e R s m args below meth cc cd.2.2.1 CT ST Q) Qr) : mw_WF G p l e R s m args below meth cc cd.2.2.1 CT ST Q (pc, ls, st, M, c, sl) := by
  obtain ⟨hx, hb, hml, hr, hlk, hown, hnm, hts, hC⟩ := hB
  obtain ⟨i, len, ⟨r1, r2, r3⟩, ps, y, k⟩ := q
  dsimp only at hq
  subst hq
  unfold mw_chkI at hc
  simp only [Bool.and_eq_true, decide_eq_true_eq] at hc
  obtain ⟨hd, hc⟩ := hc
  have hd := mw_dec_eq hd
  try dsimp only at hd hc
  unfold mw_ins at h
  try dsimp only at h
  intro H locs cells slots lsR hR hS hL hcc hss
  dsimp only at hR hS hL hcc hss ⊢

  obtain ⟨hc, rfl, hk19⟩ := hc
  split at h
  · rename_i x st0
    split at h
    · rename_i h1c
      obtain ⟨⟨hx0, hx1, hx2⟩, h⟩ := h
      refine mw_wb (fun hbd => ?_)
      obtain ⟨hlt, hz⟩ := mw_top hroom hR hcc hbd
      cases t with
      | int =>
        refine W.newa (H := H) hx hb (hts _ (mw_wd_in hc)) rfl hd rfl hx0 (by show x.toNatClampNeg * _ ≤ _; simp only [newarray.typeOf, componentBytes]; omega) (by omega) (by omega) (fun cA kA comp f1 f2 f3 => ?_)
        have hcA : cA = G.2.2.1 0 := Option.some.inj (f1.symm.trans (mw_ArrOf hC (j := 0) (by omega)).2)
        subst hcA
        obtain ⟨o1, o2, o3⟩ := mw_push H { cls := G.2.2.1 0, slots := Array.replicate x.toNatClampNeg (defaultValue (newarray.typeOf .int)), vm := .none }
        have hR1 : mw_Rel G (mw_ncell M (mw_akind .int, x.toNatClampNeg)) (H.push { cls := G.2.2.1 0, slots := Array.replicate x.toNatClampNeg (defaultValue (newarray.typeOf .int)), vm := .none }) := mw_Rel_new hR (by show mw_akind .int < 27; decide) hlt rfl rfl mw_cN (by
          show (H.push _)[H.size]? = some (arrV (G.2.2.1 0) x.toNatClampNeg (fun j => .int ((mw_ncell M (mw_akind .int, x.toNatClampNeg)).1 M.2.2.2.2.2 j)))
          rw [o1, arrV_new]
          congr 2
          funext j
          simp [mw_z, mw_ncell, defaultValue, newarray.typeOf]) o2 o3
        have hh := h _ locs (cells + 1) (slots + x.toNatClampNeg) lsR hR1 (mw_S_new hS o2 o3) hL (by dsimp only; omega) (by dsimp only; omega)
        dsimp only at hh ⊢
        rw [hz]
        exact hh
      | char =>
        refine W.newa (H := H) hx hb (hts _ (mw_wd_in hc)) rfl hd rfl hx0 (by show x.toNatClampNeg * _ ≤ _; simp only [newarray.typeOf, componentBytes]; omega) (by omega) (by omega) (fun cA kA comp f1 f2 f3 => ?_)
        have hcA : cA = G.2.2.1 1 := Option.some.inj (f1.symm.trans (mw_ArrOf hC (j := 1) (by omega)).2)
        subst hcA
        obtain ⟨o1, o2, o3⟩ := mw_push H { cls := G.2.2.1 1, slots := Array.replicate x.toNatClampNeg (defaultValue (newarray.typeOf .char)), vm := .none }
        have hR1 : mw_Rel G (mw_ncell M (mw_akind .char, x.toNatClampNeg)) (H.push { cls := G.2.2.1 1, slots := Array.replicate x.toNatClampNeg (defaultValue (newarray.typeOf .char)), vm := .none }) := mw_Rel_new hR (by show mw_akind .char < 27; decide) hlt rfl rfl mw_cN (by
          show (H.push _)[H.size]? = some (arrV (G.2.2.1 1) x.toNatClampNeg (fun j => .int ((mw_ncell M (mw_akind .char, x.toNatClampNeg)).1 M.2.2.2.2.2 j)))
          rw [o1, arrV_new]
          congr 2
          funext j
          simp [mw_z, mw_ncell, defaultValue, newarray.typeOf]) o2 o3
        have hh := h _ locs (cells + 1) (slots + x.toNatClampNeg) lsR hR1 (mw_S_new hS o2 o3) hL (by dsimp only; omega) (by dsimp only; omega)
        dsimp only at hh ⊢
        rw [hz]
        exact hh
      | long =>
        refine W.newa (H := H) hx hb (hts _ (mw_wd_in hc)) rfl hd rfl hx0 (by show x.toNatClampNeg * _ ≤ _; simp only [newarray.typeOf, componentBytes]; omega) (by omega) (by omega) (fun cA kA comp f1 f2 f3 => ?_)
        have hcA : cA = G.2.2.1 2 := Option.some.inj (f1.symm.trans (mw_ArrOf hC (j := 2) (by omega)).2)
        subst hcA
        obtain ⟨o1, o2, o3⟩ := mw_push H { cls := G.2.2.1 2, slots := Array.replicate x.toNatClampNeg (defaultValue (newarray.typeOf .long)), vm := .none }
        have hR1 : mw_Rel G (mw_ncell M (mw_akind .long, x.toNatClampNeg)) (H.push { cls := G.2.2.1 2, slots := Array.replicate x.toNatClampNeg (defaultValue (newarray.typeOf .long)), vm := .none }) := mw_Rel_new hR (by show mw_akind .long < 27; decide) hlt rfl rfl mw_cN (by
          show (H.push _)[H.size]? = some (arrV (G.2.2.1 2) x.toNatClampNeg (fun j => .long ((mw_ncell M (mw_akind .long, x.toNatClampNeg)).2.1 M.2.2.2.2.2 j)))
          rw [o1, arrV_new]
          congr 2
          funext j
          simp [mw_z, mw_ncell, defaultValue, newarray.typeOf]) o2 o3
        have hh := h _ locs (cells + 1) (slots + x.toNatClampNeg) lsR hR1 (mw_S_new hS o2 o3) hL (by dsimp only; omega) (by dsimp only; omega)
        dsimp only at hh ⊢
        rw [hz]
        exact hh
      | double =>
        refine W.newa (H := H) hx hb (hts _ (mw_wd_in hc)) rfl hd rfl hx0 (by show x.toNatClampNeg * _ ≤ _; simp only [newarray.typeOf, componentBytes]; omega) (by omega) (by omega) (fun cA kA comp f1 f2 f3 => ?_)
        have hcA : cA = G.2.2.1 3 := Option.some.inj (f1.symm.trans (mw_ArrOf hC (j := 3) (by omega)).2)
        subst hcA
        obtain ⟨o1, o2, o3⟩ := mw_push H { cls := G.2.2.1 3, slots := Array.replicate x.toNatClampNeg (defaultValue (newarray.typeOf .double)), vm := .none }
        have hR1 : mw_Rel G (mw_ncell M (mw_akind .double, x.toNatClampNeg)) (H.push { cls := G.2.2.1 3, slots := Array.replicate x.toNatClampNeg (defaultValue (newarray.typeOf .double)), vm := .none }) := mw_Rel_new hR (by show mw_akind .double < 27; decide) hlt rfl rfl mw_cN (by
          show (H.push _)[H.size]? = some (arrV (G.2.2.1 3) x.toNatClampNeg (fun j => .double ((mw_ncell M (mw_akind .double, x.toNatClampNeg)).2.2.1 M.2.2.2.2.2 j)))
          rw [o1, arrV_new]
          congr 2
          funext j
          simp [mw_z, mw_ncell, defaultValue, newarray.typeOf]) o2 o3
        have hh := h _ locs (cells + 1) (slots + x.toNatClampNeg) lsR hR1 (mw_S_new hS o2 o3) hL (by dsimp only; omega) (by dsimp only; omega)
        dsimp only at hh ⊢
        rw [hz]
        exact hh
      | byte =>
        refine W.newa (H := H) hx hb (hts _ (mw_wd_in hc)) rfl hd rfl hx0 (by show x.toNatClampNeg * _ ≤ _; simp only [newarray.typeOf, componentBytes]; omega) (by omega) (by omega) (fun cA kA comp f1 f2 f3 => ?_)
        have hcA : cA = G.2.2.1 4 := Option.some.inj (f1.symm.trans (mw_ArrOf hC (j := 4) (by omega)).2)
        subst hcA
        obtain ⟨o1, o2, o3⟩ := mw_push H { cls := G.2.2.1 4, slots := Array.replicate x.toNatClampNeg (defaultValue (newarray.typeOf .byte)), vm := .none }
        have hR1 : mw_Rel G (mw_ncell M (mw_akind .byte, x.toNatClampNeg)) (H.push { cls := G.2.2.1 4, slots := Array.replicate x.toNatClampNeg (defaultValue (newarray.typeOf .byte)), vm := .none }) := mw_Rel_new hR (by show mw_akind .byte < 27; decide) hlt rfl rfl mw_cN (by
          show (H.push _)[H.size]? = some (arrV (G.2.2.1 4) x.toNatClampNeg (fun j => .int ((mw_ncell M (mw_akind .byte, x.toNatClampNeg)).1 M.2.2.2.2.2 j)))
          rw [o1, arrV_new]
          congr 2
          funext j
          simp [mw_z, mw_ncell, defaultValue, newarray.typeOf]) o2 o3
        have hh := h _ locs (cells + 1) (slots + x.toNatClampNeg) lsR hR1 (mw_S_new hS o2 o3) hL (by dsimp only; omega) (by dsimp only; omega)
        dsimp only at hh ⊢
        rw [hz]
        exact hh
      | boolean => exact absurd rfl hk19
      | short => exact absurd rfl hk19
      | float => exact absurd rfl hk19
    · exact h.elim
  · exact h.elim
theorem mw_i_anewarray (hB : mw_Bd G p s m args meth cc cd) {q : mw_I} {pc : Nat} {ls : List (Option Value)} {st : List Value} {M : mw_Mem} {c sl : Nat} {sc : Nat × (Nat → Int32)} {rt : Option FieldType} {Qr : Option Value → mw_Mem → Prop} {n : Nat} (hroom : CT ≤ R.cells ∧ ST ≤ R.slots ∧ s.heap.size + R.cells ≤ G.1 + 900000) (hq : q.1 = .anewarray n) (hc : mw_chkI cd.1 cd.2.1 pc q = true) (h : mw_app (mw_ins sc rt q pc ls st M c sl) (mw_WF G p l e R s m args below meth cc cd.2.2.1 CT ST Q) Qr) : mw_WF G p l e R s m args below meth cc cd.2.2.1 CT ST Q (pc, ls, st, M, c, sl) := by
  obtain ⟨hx, hb, hml, hr, hlk, hown, hnm, hts, hC⟩ := hB
  obtain ⟨i, len, ⟨r1, r2, r3⟩, ps, y, k⟩ := q
  dsimp only at hq
  subst hq
  unfold mw_chkI at hc
  simp only [Bool.and_eq_true, decide_eq_true_eq] at hc
  obtain ⟨hd, hc⟩ := hc
  have hd := mw_dec_eq hd
  try dsimp only at hd hc
  unfold mw_ins at h
  try dsimp only at h
  intro H locs cells slots lsR hR hS hL hcc hss
  dsimp only at hR hS hL hcc hss ⊢

  obtain ⟨⟨hc1, hc2⟩, rfl⟩ := hc
  split at h
  · rename_i x st0
    split at h
    · rename_i h1c
      obtain ⟨⟨hx0, hx1, hx2⟩, h⟩ := h
      refine mw_wb (fun hbd => ?_)
      obtain ⟨hlt, hz⟩ := mw_top hroom hR hcc hbd
      refine W.anew (H := H) hx hb hown (hts _ (mw_wd_in hc1)) (show (Jvm.Cond.arrayOver (.object "MoonFerryOffice$State")).before args s = true from hC.2.2.2.2.1 _ (mw_wn_in hc2)) rfl hd rfl hx0 (by omega) (by omega) (by omega) (fun cA kA comp f1 f2 f3 f4 => ?_)
      have hcA : cA = G.2.2.1 5 := by
        obtain ⟨kA', comp', k1, k2, k3, k4⟩ := (mw_ArrOf hC (j := 5) (by omega)).2
        exact Option.some.inj (f1.symm.trans k4)
      subst hcA
      obtain ⟨o1, o2, o3⟩ := mw_push H { cls := G.2.2.1 5, slots := Array.replicate x.toNatClampNeg .null, vm := .none }
      have hR1 : mw_Rel G (mw_ncell M (25, x.toNatClampNeg)) (H.push { cls := G.2.2.1 5, slots := Array.replicate x.toNatClampNeg .null, vm := .none }) := mw_Rel_new hR (by show 25 < 27; decide) hlt rfl rfl mw_cN (by
        show (H.push _)[H.size]? = some (arrV (G.2.2.1 5) x.toNatClampNeg (fun j => va_rf (((mw_ncell M (25, x.toNatClampNeg)).2.2.2.1 M.2.2.2.2.2 j).map (mw_rho G))))
        rw [o1, arrV_new]
        congr 2
        funext j
        simp [mw_z, mw_ncell, va_rf]) o2 o3
      have hh := h _ locs (cells + 1) (slots + x.toNatClampNeg) lsR hR1 (mw_S_new hS o2 o3) hL (by dsimp only; omega) (by dsimp only; omega)
      dsimp only at hh ⊢
      rw [hz]
      exact hh
    · exact h.elim
  · exact h.elim
theorem mw_i_ireturn (hB : mw_Bd G p s m args meth cc cd) {q : mw_I} {pc : Nat} {ls : List (Option Value)} {st : List Value} {M : mw_Mem} {c sl : Nat} {sc : Nat × (Nat → Int32)} {rt : Option FieldType} {Qr : Option Value → mw_Mem → Prop} {Qx : Nat → mw_Mem → Prop} (hrt : rt = cd.2.2.2.1) (hq : q.1 = .ireturn) (hc : mw_chkI cd.1 cd.2.1 pc q = true) (h : mw_app (mw_ins sc rt q pc ls st M c sl) (mw_WF G p l e R s m args below meth cc cd.2.2.1 CT ST (vx_MQ below (mw_QC G Qr) (mw_XC G Qx) args s CT ST (fun q => G.1 ≤ q))) Qr) : mw_WF G p l e R s m args below meth cc cd.2.2.1 CT ST (vx_MQ below (mw_QC G Qr) (mw_XC G Qx) args s CT ST (fun q => G.1 ≤ q)) (pc, ls, st, M, c, sl) := by
  obtain ⟨hx, hb, hml, hr, hlk, hown, hnm, hts, hC⟩ := hB
  obtain ⟨i, len, ⟨r1, r2, r3⟩, ps, y, k⟩ := q
  dsimp only at hq
  subst hq
  unfold mw_chkI at hc
  simp only [Bool.and_eq_true, decide_eq_true_eq] at hc
  obtain ⟨hd, hc⟩ := hc
  have hd := mw_dec_eq hd
  try dsimp only at hd hc
  unfold mw_ins at h
  try dsimp only at h
  intro H locs cells slots lsR hR hS hL hcc hss
  dsimp only at hR hS hL hcc hss ⊢

  obtain rfl := hc
  subst hrt
  split at h
  · rename_i x
    split at h
    · rename_i hret
      refine W.widen (k := CT) (n := ST) (by omega) (by omega) (vx_ret ?_)
      exact W.iret hx hb (hr.trans hret) (fun t ht hW => ⟨⟨some (.int x), M, rfl, h, by rw [ht]; exact hR⟩, hS.F ht⟩) hS.2.2 hd hlk
    · obtain ⟨⟨ty, hret, hn⟩, h⟩ := h
      refine W.widen (k := CT) (n := ST) (by omega) (by omega) (vx_ret ?_)
      exact W.zret hx hb (hr.trans hret) hn (fun t ht hW => ⟨⟨some (.int x), M, rfl, h, by rw [ht]; exact hR⟩, hS.F ht⟩) hS.2.2 hd hlk
  · exact h.elim
theorem mw_i_lreturn (hB : mw_Bd G p s m args meth cc cd) {q : mw_I} {pc : Nat} {ls : List (Option Value)} {st : List Value} {M : mw_Mem} {c sl : Nat} {sc : Nat × (Nat → Int32)} {rt : Option FieldType} {Qr : Option Value → mw_Mem → Prop} {Qx : Nat → mw_Mem → Prop} (hrt : rt = cd.2.2.2.1) (hq : q.1 = .lreturn) (hc : mw_chkI cd.1 cd.2.1 pc q = true) (h : mw_app (mw_ins sc rt q pc ls st M c sl) (mw_WF G p l e R s m args below meth cc cd.2.2.1 CT ST (vx_MQ below (mw_QC G Qr) (mw_XC G Qx) args s CT ST (fun q => G.1 ≤ q))) Qr) : mw_WF G p l e R s m args below meth cc cd.2.2.1 CT ST (vx_MQ below (mw_QC G Qr) (mw_XC G Qx) args s CT ST (fun q => G.1 ≤ q)) (pc, ls, st, M, c, sl) := by
  obtain ⟨hx, hb, hml, hr, hlk, hown, hnm, hts, hC⟩ := hB
  obtain ⟨i, len, ⟨r1, r2, r3⟩, ps, y, k⟩ := q
  dsimp only at hq
  subst hq
  unfold mw_chkI at hc
  simp only [Bool.and_eq_true, decide_eq_true_eq] at hc
  obtain ⟨hd, hc⟩ := hc
  have hd := mw_dec_eq hd
  try dsimp only at hd hc
  unfold mw_ins at h
  try dsimp only at h
  intro H locs cells slots lsR hR hS hL hcc hss
  dsimp only at hR hS hL hcc hss ⊢

  obtain rfl := hc
  subst hrt
  split at h
  · rename_i x
    split at h
    · rename_i hret
      refine W.widen (k := CT) (n := ST) (by omega) (by omega) (vx_ret ?_)
      exact W.lret hx hb (hr.trans hret) (fun t ht hW => ⟨⟨some (.long x), M, rfl, h, by rw [ht]; exact hR⟩, hS.F ht⟩) hS.2.2 hd hlk
    · exact h.elim
  · exact h.elim
theorem mw_i_freturn (hB : mw_Bd G p s m args meth cc cd) {q : mw_I} {pc : Nat} {ls : List (Option Value)} {st : List Value} {M : mw_Mem} {c sl : Nat} {sc : Nat × (Nat → Int32)} {rt : Option FieldType} {Qr : Option Value → mw_Mem → Prop} {Qx : Nat → mw_Mem → Prop} (hrt : rt = cd.2.2.2.1) (hq : q.1 = .freturn) (hc : mw_chkI cd.1 cd.2.1 pc q = true) (h : mw_app (mw_ins sc rt q pc ls st M c sl) (mw_WF G p l e R s m args below meth cc cd.2.2.1 CT ST (vx_MQ below (mw_QC G Qr) (mw_XC G Qx) args s CT ST (fun q => G.1 ≤ q))) Qr) : mw_WF G p l e R s m args below meth cc cd.2.2.1 CT ST (vx_MQ below (mw_QC G Qr) (mw_XC G Qx) args s CT ST (fun q => G.1 ≤ q)) (pc, ls, st, M, c, sl) := by
  obtain ⟨hx, hb, hml, hr, hlk, hown, hnm, hts, hC⟩ := hB
  obtain ⟨i, len, ⟨r1, r2, r3⟩, ps, y, k⟩ := q
  dsimp only at hq
  subst hq
  unfold mw_chkI at hc
  simp only [Bool.and_eq_true, decide_eq_true_eq] at hc
  obtain ⟨hd, hc⟩ := hc
  have hd := mw_dec_eq hd
  try dsimp only at hd hc
  unfold mw_ins at h
  try dsimp only at h
  intro H locs cells slots lsR hR hS hL hcc hss
  dsimp only at hR hS hL hcc hss ⊢

  obtain rfl := hc
  subst hrt
  split at h
  · rename_i x
    split at h
    · rename_i hret
      refine W.widen (k := CT) (n := ST) (by omega) (by omega) (vx_ret ?_)
      exact W.fret hx hb (hr.trans hret) (fun t ht hW => ⟨⟨some (.float x), M, rfl, h, by rw [ht]; exact hR⟩, hS.F ht⟩) hS.2.2 hd hlk
    · exact h.elim
  · exact h.elim
theorem mw_i_dreturn (hB : mw_Bd G p s m args meth cc cd) {q : mw_I} {pc : Nat} {ls : List (Option Value)} {st : List Value} {M : mw_Mem} {c sl : Nat} {sc : Nat × (Nat → Int32)} {rt : Option FieldType} {Qr : Option Value → mw_Mem → Prop} {Qx : Nat → mw_Mem → Prop} (hrt : rt = cd.2.2.2.1) (hq : q.1 = .dreturn) (hc : mw_chkI cd.1 cd.2.1 pc q = true) (h : mw_app (mw_ins sc rt q pc ls st M c sl) (mw_WF G p l e R s m args below meth cc cd.2.2.1 CT ST (vx_MQ below (mw_QC G Qr) (mw_XC G Qx) args s CT ST (fun q => G.1 ≤ q))) Qr) : mw_WF G p l e R s m args below meth cc cd.2.2.1 CT ST (vx_MQ below (mw_QC G Qr) (mw_XC G Qx) args s CT ST (fun q => G.1 ≤ q)) (pc, ls, st, M, c, sl) := by
  obtain ⟨hx, hb, hml, hr, hlk, hown, hnm, hts, hC⟩ := hB
  obtain ⟨i, len, ⟨r1, r2, r3⟩, ps, y, k⟩ := q
  dsimp only at hq
  subst hq
  unfold mw_chkI at hc
  simp only [Bool.and_eq_true, decide_eq_true_eq] at hc
  obtain ⟨hd, hc⟩ := hc
  have hd := mw_dec_eq hd
  try dsimp only at hd hc
  unfold mw_ins at h
  try dsimp only at h
  intro H locs cells slots lsR hR hS hL hcc hss
  dsimp only at hR hS hL hcc hss ⊢

  obtain rfl := hc
  subst hrt
  split at h
  · rename_i x
    split at h
    · rename_i hret
      refine W.widen (k := CT) (n := ST) (by omega) (by omega) (vx_ret ?_)
      exact W.dret hx hb (hr.trans hret) (fun t ht hW => ⟨⟨some (.double x), M, rfl, h, by rw [ht]; exact hR⟩, hS.F ht⟩) hS.2.2 hd hlk
    · exact h.elim
  · exact h.elim
theorem mw_i_areturn (hB : mw_Bd G p s m args meth cc cd) {q : mw_I} {pc : Nat} {ls : List (Option Value)} {st : List Value} {M : mw_Mem} {c sl : Nat} {sc : Nat × (Nat → Int32)} {rt : Option FieldType} {Qr : Option Value → mw_Mem → Prop} {Qx : Nat → mw_Mem → Prop} (hrt : rt = cd.2.2.2.1) (hq : q.1 = .areturn) (hc : mw_chkI cd.1 cd.2.1 pc q = true) (h : mw_app (mw_ins sc rt q pc ls st M c sl) (mw_WF G p l e R s m args below meth cc cd.2.2.1 CT ST (vx_MQ below (mw_QC G Qr) (mw_XC G Qx) args s CT ST (fun q => G.1 ≤ q))) Qr) : mw_WF G p l e R s m args below meth cc cd.2.2.1 CT ST (vx_MQ below (mw_QC G Qr) (mw_XC G Qx) args s CT ST (fun q => G.1 ≤ q)) (pc, ls, st, M, c, sl) := by
  obtain ⟨hx, hb, hml, hr, hlk, hown, hnm, hts, hC⟩ := hB
  obtain ⟨i, len, ⟨r1, r2, r3⟩, ps, y, k⟩ := q
  dsimp only at hq
  subst hq
  unfold mw_chkI at hc
  simp only [Bool.and_eq_true, decide_eq_true_eq] at hc
  obtain ⟨hd, hc⟩ := hc
  have hd := mw_dec_eq hd
  try dsimp only at hd hc
  unfold mw_ins at h
  try dsimp only at h
  intro H locs cells slots lsR hR hS hL hcc hss
  dsimp only at hR hS hL hcc hss ⊢

  obtain rfl := hc
  subst hrt
  split at h
  · rename_i x
    split at h
    · rename_i hret
      have hty : ∃ ty, cd.2.2.2.1 = some ty ∧ ((∃ n, ty = .object n) ∨ ∃ t, ty = .array t) := by
        unfold mw_isref at hret
        split at hret
        · rename_i n e9
          exact ⟨_, e9, Or.inl ⟨n, rfl⟩⟩
        · rename_i n e9
          exact ⟨_, e9, Or.inr ⟨n, rfl⟩⟩
        · cases hret
      obtain ⟨ty, e9, hty⟩ := hty
      refine W.widen (k := CT) (n := ST) (by omega) (by omega) (vx_ret ?_)
      exact W.aret hx hb (hr.trans e9) hty (Or.inr ⟨mw_rho G x, rfl⟩) (fun t ht hW => ⟨⟨some (.ref x), M, rfl, h, by rw [ht]; exact hR⟩, hS.F ht⟩) hS.2.2 hd hlk
    · exact h.elim
  · exact h.elim
theorem mw_i_return_ (hB : mw_Bd G p s m args meth cc cd) {q : mw_I} {pc : Nat} {ls : List (Option Value)} {st : List Value} {M : mw_Mem} {c sl : Nat} {sc : Nat × (Nat → Int32)} {rt : Option FieldType} {Qr : Option Value → mw_Mem → Prop} {Qx : Nat → mw_Mem → Prop} (hrt : rt = cd.2.2.2.1) (hq : q.1 = .return_) (hc : mw_chkI cd.1 cd.2.1 pc q = true) (h : mw_app (mw_ins sc rt q pc ls st M c sl) (mw_WF G p l e R s m args below meth cc cd.2.2.1 CT ST (vx_MQ below (mw_QC G Qr) (mw_XC G Qx) args s CT ST (fun q => G.1 ≤ q))) Qr) : mw_WF G p l e R s m args below meth cc cd.2.2.1 CT ST (vx_MQ below (mw_QC G Qr) (mw_XC G Qx) args s CT ST (fun q => G.1 ≤ q)) (pc, ls, st, M, c, sl) := by
  obtain ⟨hx, hb, hml, hr, hlk, hown, hnm, hts, hC⟩ := hB
  obtain ⟨i, len, ⟨r1, r2, r3⟩, ps, y, k⟩ := q
  dsimp only at hq
  subst hq
  unfold mw_chkI at hc
  simp only [Bool.and_eq_true, decide_eq_true_eq] at hc
  obtain ⟨hd, hc⟩ := hc
  have hd := mw_dec_eq hd
  try dsimp only at hd hc
  unfold mw_ins at h
  try dsimp only at h
  intro H locs cells slots lsR hR hS hL hcc hss
  dsimp only at hR hS hL hcc hss ⊢

  obtain rfl := hc
  subst hrt
  split at h
  · split at h
    · rename_i hret
      refine W.widen (k := CT) (n := ST) (by omega) (by omega) (vx_ret ?_)
      exact W.vret hx hb (hr.trans hret) (fun t ht hW => ⟨⟨none, M, rfl, h, by rw [ht]; exact hR⟩, hS.F ht⟩) hS.2.2 hd hlk
    · exact h.elim
  · exact h.elim
end
