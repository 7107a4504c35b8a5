/-! the instructions that make cells, and the returns -/
section
variable {G : mw_G} {p : Program} {l : Launch} {e : Env} {R : Room} {s : State} {m : MethodId} {args : Array Value} {below : List Frame} {meth : Method} {cc : Code} {cd : mw_CD} {CT ST : Nat} {Q : State → Prop}
theorem mw_def0 {k : Nat} {r : vw_C} (hk : vwCl[k]? = some r) {j : Nat} (hj : j < r.2.2) (M : mw_Mem) (q : Nat × Nat) : defaultValue (mw_ty0 r j) = mw_fv G (mw_ncell M q) k M.2.2.2.2.2 j := by
  have h0 := mw_cls_ty k r hk j hj
  unfold mw_fv mw_tag
  rw [hk]
  dsimp only
  unfold mw_tyok at h0
  unfold mw_ty0 mw_gv mw_ncell mw_z
  split at h0
  · rename_i e9
    simp only [decide_eq_true_eq] at h0
    rw [e9, h0]; simp [defaultValue, mw_tr]
  · rename_i e9
    simp only [decide_eq_true_eq] at h0
    rw [e9, h0]; simp [defaultValue, mw_tr]
  · rename_i e9
    simp only [decide_eq_true_eq] at h0
    rw [e9, h0]; simp [defaultValue, mw_tr]
  · rename_i e9
    simp only [decide_eq_true_eq] at h0
    rw [e9, h0]; simp [defaultValue, mw_tr]
  · rename_i e9
    simp only [decide_eq_true_eq] at h0
    rw [e9, h0]; simp [defaultValue, mw_tr, mw_rv]
  · rename_i e9
    simp only [decide_eq_true_eq] at h0
    rw [e9, h0]; simp [defaultValue, mw_tr, mw_rv]
  · cases h0
theorem mw_cN {M : mw_Mem} {q : Nat × Nat} : ∀ x, x ≠ M.2.2.2.2.2 → ∀ k9 n9, mw_cell G (mw_ncell M q) k9 n9 x = mw_cell G M k9 n9 x := fun _ hx _ _ => mw_cell_congr (mw_z_ne _ _ hx) (mw_z_ne _ _ hx) (mw_z_ne _ _ hx) (mw_z_ne _ _ hx)
theorem mw_push (H : Heap) (x : Cell) : (H.push x)[H.size]? = some x ∧ (H.push x).size = H.size + 1 ∧ ∀ q : Nat, q < H.size → (H.push x)[q]? = H[q]? := by
  refine ⟨by simp, by simp, fun q hq => ?_⟩
  rw [Array.getElem?_push, if_neg (by omega)]
theorem mw_wb {H : Heap} {locs : List Loc} {cells slots : Nat} {g : JFrame} (k : H.size ≤ s.heap.size + cells → W p l e R s m args below meth cc H locs cells slots Q g) : W p l e R s m args below meth cc H locs cells slots Q g := fun T hT X => k (by have h := X.heapSize; rw [hT] at h; exact h) T hT X
theorem mw_top {M : mw_Mem} {H : Heap} {cells c : Nat} (hroom : CT ≤ R.cells ∧ ST ≤ R.slots ∧ s.heap.size + R.cells ≤ G.1 + 990000) (hR : mw_Rel G M H) (hcc : cells + c = CT) (h1 : H.size ≤ s.heap.size + cells) : M.2.2.2.2.2 < 1000000 ∧ H.size = mw_rho G M.2.2.2.2.2 := by
  have h2 := hR.1
  have h3 : M.2.2.2.2.2 < 1000000 := by omega
  exact ⟨h3, by rw [mw_rho_lt h3]; exact h2⟩
theorem mw_S_new {H H1 : Heap} {locs : List Loc} (hS : va_S (mw_A G) s.heap H locs) (z : H1.size = H.size + 1) (o : ∀ q : Nat, q < H.size → H1[q]? = H[q]?) : va_S (mw_A G) s.heap H1 locs :=
  ⟨Nat.le_trans hS.1 (by omega), fun x h1 h2 => (o x (Nat.lt_of_lt_of_le h1 hS.1)).trans (hS.2.1 x h1 h2), hS.2.2⟩
theorem mw_copy {H : Heap} {locs : List Loc} {cells slots pc : Nat} {lsR : Array Slot} {rest : List Value} {cb : ByteArray} (hexec : p.tables.exec = Jvm.exec) (hb : cc.code = cb) (hml : lsR.size = cc.maxLocals) {own : String} {index : Nat} (hown : s.vm.findClass own = some m.cls) (hlink : (Cond.methodLink own index arraycopyName).before args s = true) (hnat : (Cond.native arraycopyName).before args s = true) (hstat : (Cond.static arraycopyName).before args s = true) (hini : (Cond.initialized "java/lang/System").before args s = true)
    {c0 : ClassId} {ty : FieldType} (hA : ArrOfT s c0 ty) {a0 a n0 n1 : Nat} {f g : Nat → Int32} (hc0 : H[a0]? = some (vp_cell c0 (n0, .inl f))) (hc1 : H[a]? = some (vp_cell c0 (n1, .inl g))) (hS : va_S (mw_A G) s.heap H locs)
    {sp dp n : Int32} (h1 : ¬ sp < 0) (h2 : ¬ dp < 0) (h3 : ¬ n < 0) (h4 : sp.toNatClampNeg + n.toNatClampNeg ≤ n0) (h5 : dp.toNatClampNeg + n.toNatClampNeg ≤ n1) (hGa : mw_A G a) (hfit : ∀ i : Nat, i < n.toNatClampNeg → fits ty (.int (f (sp.toNatClampNeg + i))) = true)
    (hframes : 1 ≤ R.frames) (hlocals : (rest.map fun v => v.category).sum + (nativeFrameWords "java/lang/System" "arraycopy" 5 + 11) ≤ R.locals) (hdg : decode cb pc = .ok (.invokestatic index, 3))
    (kk : ∀ (H1 : Heap) (locs1 : List Loc), H1[a]? = some (vp_cell c0 (n1, .inl (va_cpy f g sp.toNatClampNeg dp.toNatClampNeg n.toNatClampNeg))) → H1.size = H.size → (∀ q : Nat, q ≠ a → H1[q]? = H[q]?) → va_S (mw_A G) s.heap H1 locs1 → W p l e R s m args below meth cc H1 locs1 cells slots Q (F0 m (pc + 3) lsR rest)) : W p l e R s m args below meth cc H locs cells slots Q (F0 m pc lsR (.int n :: .int dp :: .ref a :: .int sp :: .ref a0 :: rest)) := by
  have nn : ∀ z : Int32, ¬ z < 0 → z.toInt = (z.toNatClampNeg : Int) := by
    intro z hz
    have hz0 : (0 : Int) ≤ z.toInt := by
      have := Int32.not_lt.mp hz
      simpa using Int32.le_iff_toInt_le.mp this
    show z.toInt = ((z.toInt.toNat : Nat) : Int)
    omega
  intro T hT X
  obtain ⟨-, k0, hk0, cm0, hkk0⟩ := hA n0 (fun j => .int (f j))
  obtain ⟨-, k1, hk1, cm1, hkk1⟩ := hA n1 (fun j => .int (g j))
  obtain ⟨vm', X', step⟩ := X.arraycopy hexec hown hlink hnat hstat hini (src := a0) (dst := a) (cs := vp_cell c0 (n0, .inl f)) (cd := vp_cell c0 (n1, .inl g)) (srcPos := sp) (destPos := dp) (n := n) (by rw [hT]; exact hc0) (by rw [hT]; exact hc1)
    (fun _ h => by cases h) (fun _ h => by cases h) (fun h => by cases h) (fun h => by cases h) hk0 hk1 hkk0 hkk1 (by simp) h1 h2 h3
    (by rw [nn sp h1, nn n h3]; show ¬ _ > ((arrV c0 n0 (fun j => .int (f j))).slots.size : Int); rw [arrV_size]; omega)
    (by rw [nn dp h2, nn n h3]; show ¬ _ > ((arrV c0 n1 (fun j => .int (g j))).slots.size : Int); rw [arrV_size]; omega)
    (fun vm₁ _ i hi => by
      have e : (vp_cell c0 (n0, .inl f)).slots.getD (sp.toNatClampNeg + i) .null = .int (f (sp.toNatClampNeg + i)) := by
        show (arrV c0 n0 (fun j => .int (f j))).slots.getD _ _ = _
        rw [Array.getD_eq_getD_getElem?, arrV_read _ _ (by omega)]
        rfl
      refine ⟨?_, ?_⟩
      · rw [e]
        exact hfit i hi
      · rw [e]
        exact trivial)
    (g := F0 m pc lsR (.int n :: .int dp :: .ref a :: .int sp :: .ref a0 :: rest)) rfl hml (rest := rest) rfl (by rw [hb]; exact hdg) hframes (by show 2 * 0 + _ + _ ≤ _; omega)
  have e1 : copied (vp_cell c0 (n0, .inl f)) (vp_cell c0 (n1, .inl g)) sp dp n = vp_cell c0 (n1, .inl (va_cpy f g sp.toNatClampNeg dp.toNatClampNeg n.toNatClampNeg)) := va_copied (fun z => .int z) c0 c0 f g h4
  rw [e1] at X' step
  have hl : a < H.size := (Array.getElem?_eq_some_iff.mp hc1).1
  have hheap : ((T.setVm vm').setCell a (vp_cell c0 (n1, .inl (va_cpy f g sp.toNatClampNeg dp.toNatClampNeg n.toNatClampNeg)))).heap = H.setIfInBounds a (vp_cell c0 (n1, .inl (va_cpy f g sp.toNatClampNeg dp.toNatClampNeg n.toNatClampNeg))) := by rw [← hT]; rfl
  have oq : ∀ q : Nat, q ≠ a → (H.setIfInBounds a (vp_cell c0 (n1, .inl (va_cpy f g sp.toNatClampNeg dp.toNatClampNeg n.toNatClampNeg))))[q]? = H[q]? := fun q hq => by simp [Array.getElem?_setIfInBounds, Ne.symm hq]
  obtain ⟨t, a1, b1⟩ := kk _ _ (show (H.setIfInBounds a _)[a]? = some _ by simp [Array.getElem?_setIfInBounds, hl]) (by simp) oq ⟨by simp; exact hS.1, fun q g1 g2 => by
      rw [oq q (fun e => g2 (by rw [e]; exact hGa))]
      exact hS.2.1 q g1 g2, fun q hq => by
      rcases List.mem_append.mp hq with h | h
      · exact hS.2.2 q h
      · obtain ⟨z, -, hz⟩ := List.mem_map.mp h
        rw [← hz]
        exact hGa⟩ _ hheap X'
  exact ⟨t, step t a1, b1⟩
theorem mw_copyO {H : Heap} {locs : List Loc} {cells slots pc : Nat} {lsR : Array Slot} {rest : List Value} {cb : ByteArray} (hexec : p.tables.exec = Jvm.exec) (hb : cc.code = cb) (hml : lsR.size = cc.maxLocals) {own : String} {index : Nat} (hown : s.vm.findClass own = some m.cls) (hlink : (Cond.methodLink own index arraycopyName).before args s = true) (hnat : (Cond.native arraycopyName).before args s = true) (hstat : (Cond.static arraycopyName).before args s = true) (hini : (Cond.initialized "java/lang/System").before args s = true)
    {c0 : ClassId} (hA : ArrOfT s c0 .byte) {a0 a n0 n1 : Nat} {f g : Nat → Int32} (hX : va_T .byte a0 n0 (fun j => .int (f j)) (mw_A G) s s.heap) (hc1 : H[a]? = some (vp_cell c0 (n1, .inl g))) (hS : va_S (mw_A G) s.heap H locs)
    {sp dp n : Int32} (h1 : ¬ sp < 0) (h2 : ¬ dp < 0) (h3 : ¬ n < 0) (h4 : sp.toNatClampNeg + n.toNatClampNeg ≤ n0) (h5 : dp.toNatClampNeg + n.toNatClampNeg ≤ n1) (hGa : mw_A G a) (hfit : ∀ i : Nat, i < n.toNatClampNeg → fits .byte (.int (f (sp.toNatClampNeg + i))) = true)
    (hframes : 1 ≤ R.frames) (hlocals : (rest.map fun v => v.category).sum + (nativeFrameWords "java/lang/System" "arraycopy" 5 + 11) ≤ R.locals) (hdg : decode cb pc = .ok (.invokestatic index, 3))
    (kk : ∀ (H1 : Heap) (locs1 : List Loc), H1[a]? = some (vp_cell c0 (n1, .inl (va_cpy f g sp.toNatClampNeg dp.toNatClampNeg n.toNatClampNeg))) → H1.size = H.size → (∀ q : Nat, q ≠ a → H1[q]? = H[q]?) → va_S (mw_A G) s.heap H1 locs1 → W p l e R s m args below meth cc H1 locs1 cells slots Q (F0 m (pc + 3) lsR rest)) : W p l e R s m args below meth cc H locs cells slots Q (F0 m pc lsR (.int n :: .int dp :: .ref a :: .int sp :: .ref a0 :: rest)) := by
  have nn : ∀ z : Int32, ¬ z < 0 → z.toInt = (z.toNatClampNeg : Int) := by
    intro z hz
    have hz0 : (0 : Int) ≤ z.toInt := by
      have := Int32.not_lt.mp hz
      simpa using Int32.le_iff_toInt_le.mp this
    show z.toInt = ((z.toInt.toNat : Nat) : Int)
    omega
  intro T hT X
  obtain ⟨scr, hs1, hs2, hs3, hs4, -, hs5, hs7⟩ := hX
  have hc0 : H[a0]? = some scr := by rw [hS.2.1 a0 (Array.getElem?_eq_some_iff.mp hs1).1 hs7]; exact hs1
  obtain ⟨hs6, k0, hk0, cm0, hkk0⟩ := hs2
  obtain ⟨-, k1, hk1, cm1, hkk1⟩ := hA n1 (fun j => .int (g j))
  obtain ⟨vm', X', step⟩ := X.arraycopy hexec hown hlink hnat hstat hini (src := a0) (dst := a) (cs := scr) (cd := vp_cell c0 (n1, .inl g)) (srcPos := sp) (destPos := dp) (n := n) (by rw [hT]; exact hc0) (by rw [hT]; exact hc1)
    hs6 (fun _ h => by cases h) hs3 (fun h => by cases h) hk0 hk1 hkk0 hkk1 (by simp [refKind]) h1 h2 h3
    (by rw [nn sp h1, nn n h3]; omega)
    (by rw [nn dp h2, nn n h3]; show ¬ _ > ((arrV c0 n1 (fun j => .int (g j))).slots.size : Int); rw [arrV_size]; omega)
    (fun vm₁ _ i hi => by
      have e : scr.slots.getD (sp.toNatClampNeg + i) .null = .int (f (sp.toNatClampNeg + i)) := by
        rw [Array.getD_eq_getD_getElem?, hs5 _ (by omega)]
        rfl
      refine ⟨?_, ?_⟩
      · rw [e]
        exact hfit i hi
      · rw [e]
        exact trivial)
    (g := F0 m pc lsR (.int n :: .int dp :: .ref a :: .int sp :: .ref a0 :: rest)) rfl hml (rest := rest) rfl (by rw [hb]; exact hdg) hframes (by show 2 * 0 + _ + _ ≤ _; omega)
  have e1 : copied scr (vp_cell c0 (n1, .inl g)) sp dp n = vp_cell c0 (n1, .inl (va_cpy f g sp.toNatClampNeg dp.toNatClampNeg n.toNatClampNeg)) := va_copiedX (fun z => .int z) scr c0 f g hs5 h4
  rw [e1] at X' step
  have hl : a < H.size := (Array.getElem?_eq_some_iff.mp hc1).1
  have hheap : ((T.setVm vm').setCell a (vp_cell c0 (n1, .inl (va_cpy f g sp.toNatClampNeg dp.toNatClampNeg n.toNatClampNeg)))).heap = H.setIfInBounds a (vp_cell c0 (n1, .inl (va_cpy f g sp.toNatClampNeg dp.toNatClampNeg n.toNatClampNeg))) := by rw [← hT]; rfl
  have oq : ∀ q : Nat, q ≠ a → (H.setIfInBounds a (vp_cell c0 (n1, .inl (va_cpy f g sp.toNatClampNeg dp.toNatClampNeg n.toNatClampNeg))))[q]? = H[q]? := fun q hq => by simp [Array.getElem?_setIfInBounds, Ne.symm hq]
  obtain ⟨t, a1, b1⟩ := kk _ _ (show (H.setIfInBounds a _)[a]? = some _ by simp [Array.getElem?_setIfInBounds, hl]) (by simp) oq ⟨by simp; exact hS.1, fun q g1 g2 => by
      rw [oq q (fun e => g2 (by rw [e]; exact hGa))]
      exact hS.2.1 q g1 g2, fun q hq => by
      rcases List.mem_append.mp hq with h | h
      · exact hS.2.2 q h
      · obtain ⟨z, -, hz⟩ := List.mem_map.mp h
        rw [← hz]
        exact hGa⟩ _ hheap X'
  exact ⟨t, step t a1, b1⟩
theorem mw_i_new (hB : mw_Bd G p s m args meth cc cd) {q : mw_I} {pc : Nat} {ls : List (Option Value)} {st : List Value} {M : mw_Mem} {c sl : Nat} {sc : Nat × (Nat → Int32)} {rt : Option FieldType} {Qr : Option Value → mw_Mem → Prop} {n : Nat} (hroom : CT ≤ R.cells ∧ ST ≤ R.slots ∧ s.heap.size + R.cells ≤ G.1 + 990000) (hq : q.1 = .new n) (hc : mw_chkI cd.1 cd.2.1 pc q = true) (h : mw_app (mw_ins sc rt q pc ls st M c sl) (mw_WF G p l e R s m args below meth cc cd.2.2.1 CT ST Q) Qr) : mw_WF G p l e R s m args below meth cc cd.2.2.1 CT ST Q (pc, ls, st, M, c, sl) := by
  obtain ⟨hx, hb, hml, hr, hlk, hown, hnm, hts, hC⟩ := hB
  obtain ⟨i, len, ⟨r1, r2, r3⟩, ps, y, k⟩ := q
  dsimp only at hq
  subst hq
  unfold mw_chkI at hc
  simp only [Bool.and_eq_true, decide_eq_true_eq] at hc
  obtain ⟨hd, hc⟩ := hc
  have hd := mw_dec_eq hd
  try dsimp only at hd hc
  unfold mw_ins at h
  try dsimp only at h
  intro H locs cells slots lsR hR hS hL hcc hss
  dsimp only at hR hS hL hcc hss ⊢

  split at h
  · rename_i hif
    obtain ⟨rfl, h1c, h2c⟩ := hif
    simp only [Bool.and_eq_true] at hc
    split at hc
    · rename_i r hr
      simp only [Bool.and_eq_true, decide_eq_true_eq] at hc
      obtain ⟨⟨⟨⟨rfl, rfl⟩, c1⟩, c2⟩, c3⟩ := hc
      refine mw_wb (fun hbd => ?_)
      obtain ⟨hlt, hz⟩ := mw_top hroom hR hcc hbd
      have hKn := hC.1.1 r1 r hr
      refine W.newcK (H := H) hx hb hown (hts _ (mw_wd_in c1)) (hts _ (mw_wd_in c2)) (hts _ (mw_wd_in c3)) rfl hd (by omega) (by omega) hKn.2.1 rfl (fun H1 kC hkC e1 z1 o1 => ?_)
      have hfs : ∀ j, j < r.2.2 → defaultValue (mw_ty0 r j) = vp_V ((List.range r.2.2).map (mw_fv G (mw_ncell M (r1, r.2.2)) r1 M.2.2.2.2.2)) j := by
        intro j hj
        unfold vp_V
        rw [List.getD_eq_getElem?_getD, List.getElem?_map, List.getElem?_range hj]
        exact mw_def0 hr hj M _
      have hR1 : mw_Rel G (mw_ncell M (r1, r.2.2)) H1 := mw_Rel_new hR (by have := mw_cls_lt hr; show r1 < 28; omega) (mw_np hC hS (Nat.le_of_eq hR.1)) hlt rfl rfl mw_cN (by
        rw [mw_cell_obj hr]
        exact ⟨r, hr, (u_born (mw_ty0 r) hts (mw_cls_ws r1 r hr) hKn hkC e1 (mw_ty0_ok hr)).to hfs⟩) z1 o1
      have hh := h H1 locs (cells + 1) (slots + r.2.2) lsR hR1 (mw_S_new hS z1 o1) hL (by dsimp only; omega) (by dsimp only; omega)
      dsimp only at hh ⊢
      rw [hz]
      exact hh
    · cases hc
  · exact h.elim
theorem mw_noL : ¬ Jvm.Cond.arrayClass .long ∈ mw_tbl := by decide +kernel
theorem mw_noD : ¬ Jvm.Cond.arrayClass .double ∈ mw_tbl := by decide +kernel
theorem mw_i_newarray (hB : mw_Bd G p s m args meth cc cd) {q : mw_I} {pc : Nat} {ls : List (Option Value)} {st : List Value} {M : mw_Mem} {c sl : Nat} {sc : Nat × (Nat → Int32)} {rt : Option FieldType} {Qr : Option Value → mw_Mem → Prop} {t : ArrayType} (hroom : CT ≤ R.cells ∧ ST ≤ R.slots ∧ s.heap.size + R.cells ≤ G.1 + 990000) (hq : q.1 = .newarray t) (hc : mw_chkI cd.1 cd.2.1 pc q = true) (h : mw_app (mw_ins sc rt q pc ls st M c sl) (mw_WF G p l e R s m args below meth cc cd.2.2.1 CT ST Q) Qr) : mw_WF G p l e R s m args below meth cc cd.2.2.1 CT ST Q (pc, ls, st, M, c, sl) := by
  obtain ⟨hx, hb, hml, hr, hlk, hown, hnm, hts, hC⟩ := hB
  obtain ⟨i, len, ⟨r1, r2, r3⟩, ps, y, k⟩ := q
  dsimp only at hq
  subst hq
  unfold mw_chkI at hc
  simp only [Bool.and_eq_true, decide_eq_true_eq] at hc
  obtain ⟨hd, hc⟩ := hc
  have hd := mw_dec_eq hd
  try dsimp only at hd hc
  unfold mw_ins at h
  try dsimp only at h
  intro H locs cells slots lsR hR hS hL hcc hss
  dsimp only at hR hS hL hcc hss ⊢

  obtain ⟨hc, rfl, hk19⟩ := hc
  split at h
  · rename_i x st0
    split at h
    · rename_i h1c
      obtain ⟨⟨hx0, hx1, hx2⟩, h⟩ := h
      refine mw_wb (fun hbd => ?_)
      obtain ⟨hlt, hz⟩ := mw_top hroom hR hcc hbd
      cases t with
      | int =>
        refine W.newa (H := H) hx hb (hts _ (mw_wd_in hc)) rfl hd rfl hx0 (by show x.toNatClampNeg * _ ≤ _; simp only [newarray.typeOf, componentBytes]; omega) (by omega) (by omega) (fun cA kA comp f1 f2 f3 => ?_)
        have hcA : cA = G.2.2.1 0 := Option.some.inj (f1.symm.trans (mw_ArrOf hC (j := 0) (by omega)).2)
        subst hcA
        obtain ⟨o1, o2, o3⟩ := mw_push H { cls := G.2.2.1 0, slots := Array.replicate x.toNatClampNeg (defaultValue (newarray.typeOf .int)), vm := .none }
        have hR1 : mw_Rel G (mw_ncell M (mw_akind .int, x.toNatClampNeg)) (H.push { cls := G.2.2.1 0, slots := Array.replicate x.toNatClampNeg (defaultValue (newarray.typeOf .int)), vm := .none }) := mw_Rel_new hR (by show mw_akind .int < 28; decide) (mw_np hC hS (Nat.le_of_eq hR.1)) hlt rfl rfl mw_cN (by
          show (H.push _)[H.size]? = some (arrV (G.2.2.1 0) x.toNatClampNeg (fun j => .int ((mw_ncell M (mw_akind .int, x.toNatClampNeg)).1 M.2.2.2.2.2 j)))
          rw [o1, arrV_new]
          congr 2
          funext j
          simp [mw_z, mw_ncell, defaultValue, newarray.typeOf]) o2 o3
        have hh := h _ locs (cells + 1) (slots + x.toNatClampNeg) lsR hR1 (mw_S_new hS o2 o3) hL (by dsimp only; omega) (by dsimp only; omega)
        dsimp only at hh ⊢
        rw [hz]
        exact hh
      | char =>
        refine W.newa (H := H) hx hb (hts _ (mw_wd_in hc)) rfl hd rfl hx0 (by show x.toNatClampNeg * _ ≤ _; simp only [newarray.typeOf, componentBytes]; omega) (by omega) (by omega) (fun cA kA comp f1 f2 f3 => ?_)
        have hcA : cA = G.2.2.1 1 := Option.some.inj (f1.symm.trans (mw_ArrOf hC (j := 1) (by omega)).2)
        subst hcA
        obtain ⟨o1, o2, o3⟩ := mw_push H { cls := G.2.2.1 1, slots := Array.replicate x.toNatClampNeg (defaultValue (newarray.typeOf .char)), vm := .none }
        have hR1 : mw_Rel G (mw_ncell M (mw_akind .char, x.toNatClampNeg)) (H.push { cls := G.2.2.1 1, slots := Array.replicate x.toNatClampNeg (defaultValue (newarray.typeOf .char)), vm := .none }) := mw_Rel_new hR (by show mw_akind .char < 28; decide) (mw_np hC hS (Nat.le_of_eq hR.1)) hlt rfl rfl mw_cN (by
          show (H.push _)[H.size]? = some (arrV (G.2.2.1 1) x.toNatClampNeg (fun j => .int ((mw_ncell M (mw_akind .char, x.toNatClampNeg)).1 M.2.2.2.2.2 j)))
          rw [o1, arrV_new]
          congr 2
          funext j
          simp [mw_z, mw_ncell, defaultValue, newarray.typeOf]) o2 o3
        have hh := h _ locs (cells + 1) (slots + x.toNatClampNeg) lsR hR1 (mw_S_new hS o2 o3) hL (by dsimp only; omega) (by dsimp only; omega)
        dsimp only at hh ⊢
        rw [hz]
        exact hh
      | long => exact absurd (List.mem_filter.mp (mw_wd_in hc)).1 mw_noL
      | double => exact absurd (List.mem_filter.mp (mw_wd_in hc)).1 mw_noD
      | byte =>
        refine W.newa (H := H) hx hb (hts _ (mw_wd_in hc)) rfl hd rfl hx0 (by show x.toNatClampNeg * _ ≤ _; simp only [newarray.typeOf, componentBytes]; omega) (by omega) (by omega) (fun cA kA comp f1 f2 f3 => ?_)
        have hcA : cA = G.2.2.1 4 := Option.some.inj (f1.symm.trans (mw_ArrOf hC (j := 4) (by omega)).2)
        subst hcA
        obtain ⟨o1, o2, o3⟩ := mw_push H { cls := G.2.2.1 4, slots := Array.replicate x.toNatClampNeg (defaultValue (newarray.typeOf .byte)), vm := .none }
        have hR1 : mw_Rel G (mw_ncell M (mw_akind .byte, x.toNatClampNeg)) (H.push { cls := G.2.2.1 4, slots := Array.replicate x.toNatClampNeg (defaultValue (newarray.typeOf .byte)), vm := .none }) := mw_Rel_new hR (by show mw_akind .byte < 28; decide) (mw_np hC hS (Nat.le_of_eq hR.1)) hlt rfl rfl mw_cN (by
          show (H.push _)[H.size]? = some (arrV (G.2.2.1 4) x.toNatClampNeg (fun j => .int ((mw_ncell M (mw_akind .byte, x.toNatClampNeg)).1 M.2.2.2.2.2 j)))
          rw [o1, arrV_new]
          congr 2
          funext j
          simp [mw_z, mw_ncell, defaultValue, newarray.typeOf]) o2 o3
        have hh := h _ locs (cells + 1) (slots + x.toNatClampNeg) lsR hR1 (mw_S_new hS o2 o3) hL (by dsimp only; omega) (by dsimp only; omega)
        dsimp only at hh ⊢
        rw [hz]
        exact hh
      | boolean => exact absurd rfl hk19
      | short => exact absurd rfl hk19
      | float => exact absurd rfl hk19
    · exact h.elim
  · exact h.elim
theorem mw_i_anewarray (hB : mw_Bd G p s m args meth cc cd) {q : mw_I} {pc : Nat} {ls : List (Option Value)} {st : List Value} {M : mw_Mem} {c sl : Nat} {sc : Nat × (Nat → Int32)} {rt : Option FieldType} {Qr : Option Value → mw_Mem → Prop} {n : Nat} (hroom : CT ≤ R.cells ∧ ST ≤ R.slots ∧ s.heap.size + R.cells ≤ G.1 + 990000) (hq : q.1 = .anewarray n) (hc : mw_chkI cd.1 cd.2.1 pc q = true) (h : mw_app (mw_ins sc rt q pc ls st M c sl) (mw_WF G p l e R s m args below meth cc cd.2.2.1 CT ST Q) Qr) : mw_WF G p l e R s m args below meth cc cd.2.2.1 CT ST Q (pc, ls, st, M, c, sl) := by
  obtain ⟨hx, hb, hml, hr, hlk, hown, hnm, hts, hC⟩ := hB
  obtain ⟨i, len, ⟨r1, r2, r3⟩, ps, y, k⟩ := q
  dsimp only at hq
  subst hq
  unfold mw_chkI at hc
  simp only [Bool.and_eq_true, decide_eq_true_eq] at hc
  obtain ⟨hd, hc⟩ := hc
  have hd := mw_dec_eq hd
  try dsimp only at hd hc
  unfold mw_ins at h
  try dsimp only at h
  intro H locs cells slots lsR hR hS hL hcc hss
  dsimp only at hR hS hL hcc hss ⊢

  by_cases z : r1 = 1
  · subst z
    simp only [if_pos] at h
    try dsimp only at hc
    simp only [Bool.and_eq_true, decide_eq_true_eq] at hc
    obtain ⟨⟨hc1, hc2⟩, rfl⟩ := hc
    split at h
    · rename_i x st0
      split at h
      · rename_i h1c
        obtain ⟨⟨hx0, hx1, hx2⟩, h⟩ := h
        refine mw_wb (fun hbd => ?_)
        obtain ⟨hlt, hz⟩ := mw_top hroom hR hcc hbd
        refine W.anew (H := H) hx hb hown (hts _ (mw_wd_in hc1)) (show (Jvm.Cond.arrayOver (.object "java/lang/Object")).before args s = true from hC.2.2.2.2.1 _ (mw_wn_in hc2)) rfl hd rfl hx0 (by omega) (by omega) (by omega) (fun cA kA comp f1 f2 f3 f4 => ?_)
        have hcA : cA = G.2.2.1 7 := by
          obtain ⟨kA', comp', k1, k2, k3, k4⟩ := (mw_ArrOf hC (j := 7) (by omega)).2
          exact Option.some.inj (f1.symm.trans k4)
        subst hcA
        obtain ⟨o1, o2, o3⟩ := mw_push H { cls := G.2.2.1 7, slots := Array.replicate x.toNatClampNeg .null, vm := .none }
        have hR1 : mw_Rel G (mw_ncell M (27, x.toNatClampNeg)) (H.push { cls := G.2.2.1 7, slots := Array.replicate x.toNatClampNeg .null, vm := .none }) := mw_Rel_new hR (by show 27 < 28; decide) (mw_np hC hS (Nat.le_of_eq hR.1)) hlt rfl rfl mw_cN (by
          show (H.push _)[H.size]? = some (arrV (G.2.2.1 7) x.toNatClampNeg (fun j => va_rf (((mw_ncell M (27, x.toNatClampNeg)).2.2.2.1 M.2.2.2.2.2 j).map (mw_rho G))))
          rw [o1, arrV_new]
          congr 2
          funext j
          simp [mw_z, mw_ncell, va_rf]) o2 o3
        have hh := h _ locs (cells + 1) (slots + x.toNatClampNeg) lsR hR1 (mw_S_new hS o2 o3) hL (by dsimp only; omega) (by dsimp only; omega)
        dsimp only at hh ⊢
        rw [hz]
        exact hh
      · exact h.elim
    · exact h.elim
  · simp only [if_neg z] at h
    split at hc
    · exact absurd rfl z
    · simp only [Bool.and_eq_true, decide_eq_true_eq] at hc
      obtain ⟨⟨hc1, hc2⟩, rfl⟩ := hc
      split at h
      · rename_i x st0
        split at h
        · rename_i h1c
          obtain ⟨⟨hx0, hx1, hx2⟩, h⟩ := h
          refine mw_wb (fun hbd => ?_)
          obtain ⟨hlt, hz⟩ := mw_top hroom hR hcc hbd
          refine W.anew (H := H) hx hb hown (hts _ (mw_wd_in hc1)) (show (Jvm.Cond.arrayOver (.object "MoonFerryOffice$State")).before args s = true from hC.2.2.2.2.1 _ (mw_wn_in hc2)) rfl hd rfl hx0 (by omega) (by omega) (by omega) (fun cA kA comp f1 f2 f3 f4 => ?_)
          have hcA : cA = G.2.2.1 5 := by
            obtain ⟨kA', comp', k1, k2, k3, k4⟩ := (mw_ArrOf hC (j := 5) (by omega)).2
            exact Option.some.inj (f1.symm.trans k4)
          subst hcA
          obtain ⟨o1, o2, o3⟩ := mw_push H { cls := G.2.2.1 5, slots := Array.replicate x.toNatClampNeg .null, vm := .none }
          have hR1 : mw_Rel G (mw_ncell M (25, x.toNatClampNeg)) (H.push { cls := G.2.2.1 5, slots := Array.replicate x.toNatClampNeg .null, vm := .none }) := mw_Rel_new hR (by show 25 < 28; decide) (mw_np hC hS (Nat.le_of_eq hR.1)) hlt rfl rfl mw_cN (by
            show (H.push _)[H.size]? = some (arrV (G.2.2.1 5) x.toNatClampNeg (fun j => va_rf (((mw_ncell M (25, x.toNatClampNeg)).2.2.2.1 M.2.2.2.2.2 j).map (mw_rho G))))
            rw [o1, arrV_new]
            congr 2
            funext j
            simp [mw_z, mw_ncell, va_rf]) o2 o3
          have hh := h _ locs (cells + 1) (slots + x.toNatClampNeg) lsR hR1 (mw_S_new hS o2 o3) hL (by dsimp only; omega) (by dsimp only; omega)
          dsimp only at hh ⊢
          rw [hz]
          exact hh
        · exact h.elim
      · exact h.elim
theorem mw_i_invokespecial (hB : mw_Bd G p s m args meth cc cd) {q : mw_I} {pc : Nat} {ls : List (Option Value)} {st : List Value} {M : mw_Mem} {c sl : Nat} {sc : Nat × (Nat → Int32)} {rt : Option FieldType} {Qr : Option Value → mw_Mem → Prop} {n : Nat} (hdep : 1 ≤ R.frames ∧ 100 ≤ R.locals) (hq : q.1 = .invokespecial n) (hc : mw_chkI cd.1 cd.2.1 pc q = true) (h : mw_app (mw_ins sc rt q pc ls st M c sl) (mw_WF G p l e R s m args below meth cc cd.2.2.1 CT ST Q) Qr) : mw_WF G p l e R s m args below meth cc cd.2.2.1 CT ST Q (pc, ls, st, M, c, sl) := by
  obtain ⟨hx, hb, hml, hr, hlk, hown, hnm, hts, hC⟩ := hB
  obtain ⟨i, len, ⟨r1, r2, r3⟩, ps, y, k⟩ := q
  dsimp only at hq
  subst hq
  unfold mw_chkI at hc
  simp only [Bool.and_eq_true, decide_eq_true_eq] at hc
  obtain ⟨hd, hc⟩ := hc
  have hd := mw_dec_eq hd
  try dsimp only at hd hc
  unfold mw_ins at h
  try dsimp only at h
  intro H locs cells slots lsR hR hS hL hcc hss
  dsimp only at hR hS hL hcc hss ⊢

  split at h
  · rename_i h8
    obtain ⟨h8, h9⟩ := h8
    split at h
    · rename_i a r
      split at hc
      · simp only [Bool.and_eq_true, decide_eq_true_eq] at hc
        obtain ⟨⟨⟨rfl, c1⟩, c2⟩, c3⟩ := hc
        have e9 : ((fun v : Value => v.category) ∘ mw_tr G) = fun v => v.category := funext fun v => mw_tr_cat G v
        have h10 : (r.map fun v => v.category).sum ≤ 8 := by
          unfold mw_cats at h9
          simp only [List.map_cons, List.sum_cons] at h9
          have : (Value.ref a).category = 1 := rfl
          omega
        refine W.objInit hx hb hown (hts _ (mw_wd_in c1)) (hts _ (mw_wd_in c2)) (hts _ (mw_wd_in c3)) rfl (hL.2.1.trans hml.symm) rfl hd hdep.1 ?_ (h H locs cells slots lsR hR hS hL hcc hss)
        show 2 * 0 + ((r.map (mw_tr G)).map fun v => v.category).sum + 12 ≤ R.locals
        rw [List.map_map, e9]
        omega
      · exfalso
        omega
      · rename_i e8 _
        exact absurd h8 e8
    · exact h.elim
  · exact h.elim
theorem mw_i_invokestatic (hB : mw_Bd G p s m args meth cc cd) {q : mw_I} {pc : Nat} {ls : List (Option Value)} {st : List Value} {M : mw_Mem} {c sl : Nat} {sc : Nat × (Nat → Int32)} {rt : Option FieldType} {Qr : Option Value → mw_Mem → Prop} {n : Nat} (hdep : 1 ≤ R.frames ∧ 100 ≤ R.locals) (hq : q.1 = .invokestatic n) (hc : mw_chkI cd.1 cd.2.1 pc q = true) (h : mw_app (mw_ins sc rt q pc ls st M c sl) (mw_WF G p l e R s m args below meth cc cd.2.2.1 CT ST Q) Qr) : mw_WF G p l e R s m args below meth cc cd.2.2.1 CT ST Q (pc, ls, st, M, c, sl) := by
  obtain ⟨hx, hb, hml, hr, hlk, hown, hnm, hts, hC⟩ := hB
  obtain ⟨i, len, ⟨r1, r2, r3⟩, ps, y, k⟩ := q
  dsimp only at hq
  subst hq
  unfold mw_chkI at hc
  simp only [Bool.and_eq_true, decide_eq_true_eq] at hc
  obtain ⟨hd, hc⟩ := hc
  have hd := mw_dec_eq hd
  try dsimp only at hd hc
  unfold mw_ins at h
  try dsimp only at h
  intro H locs cells slots lsR hR hS hL hcc hss
  dsimp only at hR hS hL hcc hss ⊢

  split at h
  · rename_i h8
    obtain ⟨h8, h9⟩ := h8
    split at h
    · rename_i n9 dp b sp a r
      split at hc
      · simp only [Bool.and_eq_true, decide_eq_true_eq] at hc
        obtain ⟨⟨⟨⟨rfl, c1⟩, c2⟩, c3⟩, c4⟩ := hc
        split at h
        · rename_i k0 n0 k1 n1 hk0 hk1
          split at h
          · rename_i hkk
            obtain ⟨⟨p1, p2, p3, p4, p5, p6⟩, h⟩ := h
            obtain ⟨e0, hat0⟩ := mw_arr hR hk0
            obtain ⟨e1, hat1⟩ := mw_arr hR hk1
            have e9 : ((fun v : Value => v.category) ∘ mw_tr G) = fun v => v.category := funext fun v => mw_tr_cat G v
            have h10 : (r.map fun v => v.category).sum ≤ 8 := by
              unfold mw_cats at h9
              simp only [List.map_cons, List.sum_cons] at h9
              have f1 : (Value.ref a).category = 1 := rfl
              have f2 : (Value.ref b).category = 1 := rfl
              have f3 : (Value.int n9).category = 1 := rfl
              have f4 : (Value.int dp).category = 1 := rfl
              have f5 : (Value.int sp).category = 1 := rfl
              omega
            show W p l e R s m args below meth cc H locs cells slots Q (F0 m pc lsR (.int n9 :: .int dp :: .ref (mw_rho G b) :: .int sp :: .ref (mw_rho G a) :: r.map (mw_tr G)))
            rw [← e0, ← e1]
            rcases hkk with ⟨rfl, rfl⟩ | ⟨rfl, rfl⟩
            · refine mw_copy hx hb (hL.2.1.trans hml.symm) hown (hts _ (mw_wd_in c1)) (hts _ (mw_wd_in c2)) (hts _ (mw_wd_in c3)) (hts _ (mw_wd_in c4)) ((mw_ArrOf hC (j := 0) (by omega)).1) hat0 hat1 hS p1 p2 p3 p4 p5 (mw_inA hR hk1) (fun _ _ => rfl) hdep.1 ?_ hd (fun H1 locs1 z1 z2 z3 z4 => ?_)
              · rw [List.map_map, e9]
                have : nativeFrameWords "java/lang/System" "arraycopy" 5 ≤ 40 := by decide
                omega
              · refine h H1 locs1 cells slots lsR (mw_Rel_set hR rfl (fun x hx9 k9 n9 => mw_cell_congr (by show (if x = b then _ else _) = _; rw [if_neg hx9]) rfl rfl rfl) (fun k9 hk9 => ?_) z2 z3) z4 hL hcc hss
                cases hk1.symm.trans hk9
                show H1[G.1 + b]? = some (arrV (G.2.2.1 0) n1 (fun j => .int ((mw_cp M a b sp.toNatClampNeg dp.toNatClampNeg n9.toNatClampNeg).1 b j)))
                refine z1.trans (congrArg some ?_)
                rw [vp_cell_i]
                congr 1
                funext j
                show Value.int _ = Value.int ((if b = b then va_cpy (M.1 a) (M.1 b) sp.toNatClampNeg dp.toNatClampNeg n9.toNatClampNeg else M.1 b) j)
                rw [if_pos rfl]
            · refine mw_copy hx hb (hL.2.1.trans hml.symm) hown (hts _ (mw_wd_in c1)) (hts _ (mw_wd_in c2)) (hts _ (mw_wd_in c3)) (hts _ (mw_wd_in c4)) ((mw_ArrOf hC (j := 4) (by omega)).1) hat0 hat1 hS p1 p2 p3 p4 p5 (mw_inA hR hk1) (p6 rfl) hdep.1 ?_ hd (fun H1 locs1 z1 z2 z3 z4 => ?_)
              · rw [List.map_map, e9]
                have : nativeFrameWords "java/lang/System" "arraycopy" 5 ≤ 40 := by decide
                omega
              · refine h H1 locs1 cells slots lsR (mw_Rel_set hR rfl (fun x hx9 k9 n9 => mw_cell_congr (by show (if x = b then _ else _) = _; rw [if_neg hx9]) rfl rfl rfl) (fun k9 hk9 => ?_) z2 z3) z4 hL hcc hss
                cases hk1.symm.trans hk9
                show H1[G.1 + b]? = some (arrV (G.2.2.1 4) n1 (fun j => .int ((mw_cp M a b sp.toNatClampNeg dp.toNatClampNeg n9.toNatClampNeg).1 b j)))
                refine z1.trans (congrArg some ?_)
                rw [vp_cell_i]
                congr 1
                funext j
                show Value.int _ = Value.int ((if b = b then va_cpy (M.1 a) (M.1 b) sp.toNatClampNeg dp.toNatClampNeg n9.toNatClampNeg else M.1 b) j)
                rw [if_pos rfl]
          · exact h.elim
        · rename_i k1 n1 hk0 hk1
          split at h
          · rename_i hkk
            obtain ⟨hoa, rfl⟩ := hkk
            obtain ⟨⟨p1, p2, p3, p4, p5, p6⟩, h⟩ := h
            obtain ⟨e1, hat1⟩ := mw_arr hR hk1
            have e9 : ((fun v : Value => v.category) ∘ mw_tr G) = fun v => v.category := funext fun v => mw_tr_cat G v
            have h10 : (r.map fun v => v.category).sum ≤ 8 := by
              unfold mw_cats at h9
              simp only [List.map_cons, List.sum_cons] at h9
              have f1 : (Value.ref a).category = 1 := rfl
              have f2 : (Value.ref b).category = 1 := rfl
              have f3 : (Value.int n9).category = 1 := rfl
              have f4 : (Value.int dp).category = 1 := rfl
              have f5 : (Value.int sp).category = 1 := rfl
              omega
            show W p l e R s m args below meth cc H locs cells slots Q (F0 m pc lsR (.int n9 :: .int dp :: .ref (mw_rho G b) :: .int sp :: .ref (mw_rho G a) :: r.map (mw_tr G)))
            rw [← e1]
            refine mw_copyO hx hb (hL.2.1.trans hml.symm) hown (hts _ (mw_wd_in c1)) (hts _ (mw_wd_in c2)) (hts _ (mw_wd_in c3)) (hts _ (mw_wd_in c4)) ((mw_ArrOf hC (j := 4) (by omega)).1) (mw_Old_T hC.2.1.2 hoa) hat1 hS p1 p2 p3 p4 p5 (mw_inA hR hk1) p6 hdep.1 ?_ hd (fun H1 locs1 z1 z2 z3 z4 => ?_)
            · rw [List.map_map, e9]
              have : nativeFrameWords "java/lang/System" "arraycopy" 5 ≤ 40 := by decide
              omega
            · refine h H1 locs1 cells slots lsR (mw_Rel_set hR rfl (fun x hx9 k9 n9 => mw_cell_congr (by show (if x = b then _ else _) = _; rw [if_neg hx9]) rfl rfl rfl) (fun k9 hk9 => ?_) z2 z3) z4 hL hcc hss
              cases hk1.symm.trans hk9
              show H1[G.1 + b]? = some (arrV (G.2.2.1 4) n1 (fun j => .int ((mw_cpo M a b sp.toNatClampNeg dp.toNatClampNeg n9.toNatClampNeg).1 b j)))
              refine z1.trans (congrArg some ?_)
              rw [vp_cell_i]
              congr 1
              funext j
              show Value.int _ = Value.int ((if b = b then va_cpy (mw_ob a) (M.1 b) sp.toNatClampNeg dp.toNatClampNeg n9.toNatClampNeg else M.1 b) j)
              rw [if_pos rfl]
          · exact h.elim
        · exact h.elim
      · rename_i e8
        exact absurd h8 e8
    · exact h.elim
  · exact h.elim
theorem mw_outer (c : ClassId) (N h0 : Nat) : ∀ i : Nat, Jvm.Free.Multi.outerC c N h0 i = arrV c N (fun j => va_rf (if j < i then some (h0 + 1 + j) else none))
  | 0 => by
    show ({ cls := c, slots := Array.replicate N .null, vm := .none } : Cell) = _
    rw [arrV_new]
    rfl
  | i + 1 => by
    show (Jvm.Free.Multi.outerC c N h0 i).setSlot i (.ref (h0 + 1 + i)) = _
    rw [mw_outer c N h0 i, arrV_store]
    congr 1
    funext j
    unfold updV
    by_cases e1 : j = i
    · subst e1
      rw [if_pos rfl, if_pos (by omega)]
      rfl
    · rw [if_neg e1]
      dsimp only
      by_cases e2 : j < i
      · rw [if_pos e2, if_pos (by omega)]
      · rw [if_neg e2, if_neg (by omega)]
theorem mw_zr_in {α : Type} (f : Nat → Nat → α) {a b x : Nat} (v : α) (h : a ≤ x ∧ x < b) : mw_zr f a b v x = fun _ => v := by
  funext y; simp [mw_zr, h]
theorem mw_zr_out {α : Type} (f : Nat → Nat → α) {a b x : Nat} (v : α) (h : ¬ (a ≤ x ∧ x < b)) : mw_zr f a b v x = f x := by
  funext y
  unfold mw_zr
  rw [if_neg h]
theorem mw_i_multianewarray (hB : mw_Bd G p s m args meth cc cd) {q : mw_I} {pc : Nat} {ls : List (Option Value)} {st : List Value} {M : mw_Mem} {c sl : Nat} {sc : Nat × (Nat → Int32)} {rt : Option FieldType} {Qr : Option Value → mw_Mem → Prop} {n k0 : Nat} (hroom : CT ≤ R.cells ∧ ST ≤ R.slots ∧ s.heap.size + R.cells ≤ G.1 + 990000) (hq : q.1 = .multianewarray n k0) (hc : mw_chkI cd.1 cd.2.1 pc q = true) (h : mw_app (mw_ins sc rt q pc ls st M c sl) (mw_WF G p l e R s m args below meth cc cd.2.2.1 CT ST Q) Qr) : mw_WF G p l e R s m args below meth cc cd.2.2.1 CT ST Q (pc, ls, st, M, c, sl) := by
  obtain ⟨hx, hb, hml, hr, hlk, hown, hnm, hts, hC⟩ := hB
  obtain ⟨i, len, ⟨r1, r2, r3⟩, ps, y, k⟩ := q
  dsimp only at hq
  subst hq
  unfold mw_chkI at hc
  simp only [Bool.and_eq_true, decide_eq_true_eq] at hc
  obtain ⟨hd, hc⟩ := hc
  have hd := mw_dec_eq hd
  try dsimp only at hd hc
  unfold mw_ins at h
  try dsimp only at h
  intro H locs cells slots lsR hR hS hL hcc hss
  dsimp only at hR hS hL hcc hss ⊢

  obtain ⟨⟨⟨⟨rfl, rfl⟩, c1⟩, c2⟩, c3⟩ := hc
  split at h
  · rename_i y9 x9 st0
    obtain ⟨⟨p1, p2, p3, p4, p5, p6⟩, h⟩ := h
    refine mw_wb (fun hbd => ?_)
    have hz0 := hR.1
    intro T hT X
    obtain ⟨vm₁, cA, comp, -, fA, fC, -, -, X', step⟩ := X.multianewarray2F hx (own := cd.1.cls) (index := n) (ty := .int) hown (hts _ (mw_wd_in c1)) (show (Jvm.Cond.arrayOver (.array .int)).before args s = true from hC.2.2.2.2.1 _ (mw_wn_in c2)) (hts _ (mw_wd_in c3)) (g := F0 m pc lsR (.int y9 :: .int x9 :: st0.map (mw_tr G))) rfl (by rw [hb]; exact hd) rfl p1 p2 (by omega) (by show _ * 4 ≤ _; omega) (by omega) rfl rfl (by omega) (by omega)
    have hcA : cA = G.2.2.1 6 := Option.some.inj (fA.symm.trans (mw_ArrOf hC (j := 6) (by omega)).2)
    have hcC : comp = G.2.2.1 0 := Option.some.inj (fC.symm.trans (mw_ArrOf hC (j := 0) (by omega)).2)
    subst hcA hcC
    generalize hF : Jvm.Free.Multi.fill (T.setVm vm₁) (G.2.2.1 6) (G.2.2.1 0) x9.toNatClampNeg y9.toNatClampNeg (defaultValue .int) x9.toNatClampNeg = F at X' step
    have hTh : (T.setVm vm₁).heap = H := hT
    obtain ⟨f1, f2, -, -⟩ := Jvm.Free.Multi.fill_facts (T.setVm vm₁) (G.2.2.1 6) (G.2.2.1 0) x9.toNatClampNeg y9.toNatClampNeg (defaultValue .int) x9.toNatClampNeg
    rw [hF, hTh] at f1 f2
    have hold : ∀ x : Nat, x < H.size → F.heap[x]? = H[x]? := fun x hx9 => by
      have := Jvm.Free.Multi.fill_old (T.setVm vm₁) (G.2.2.1 6) (G.2.2.1 0) x9.toNatClampNeg y9.toNatClampNeg (defaultValue .int) (a := x) (by rw [hTh]; exact hx9) x9.toNatClampNeg
      rw [hF, hTh] at this
      exact this
    have hrow : ∀ j : Nat, j < x9.toNatClampNeg → F.heap[H.size + 1 + j]? = some (arrV (G.2.2.1 0) y9.toNatClampNeg (fun _ => .int 0)) := fun j hj => by
      have := Jvm.Free.Multi.fill_inner (T.setVm vm₁) (G.2.2.1 6) (G.2.2.1 0) x9.toNatClampNeg y9.toNatClampNeg (defaultValue .int) x9.toNatClampNeg j hj
      rw [hF, hTh] at this
      rw [this]
      exact congrArg some (arrV_new _ _ _)
    rw [mw_outer] at f2
    have hR1 : mw_Rel G (mw_mult M x9.toNatClampNeg y9.toNatClampNeg) F.heap := by
      refine ⟨by rw [f1, hz0]; show _ = G.1 + (M.2.2.2.2.2 + 1 + x9.toNatClampNeg); omega, fun a k9 hk9 => ?_⟩
      have hk9 : (if a = M.2.2.2.2.2 then some (26, x9.toNatClampNeg) else if M.2.2.2.2.2 ≤ a ∧ a < M.2.2.2.2.2 + 1 + x9.toNatClampNeg then some (20, y9.toNatClampNeg) else M.2.2.2.2.1 a) = some k9 := hk9
      by_cases e1 : a = M.2.2.2.2.2
      · rw [if_pos e1] at hk9
        cases hk9
        refine ⟨by omega, ⟨by show 26 < 28; decide, mw_np hC hS (by omega)⟩, ?_⟩
        show F.heap[G.1 + a]? = some (arrV (G.2.2.1 6) x9.toNatClampNeg (fun j => va_rf ((if a = M.2.2.2.2.2 then (if j < x9.toNatClampNeg then some (M.2.2.2.2.2 + 1 + j) else none) else mw_zr M.2.2.2.1 M.2.2.2.2.2 (M.2.2.2.2.2 + 1 + x9.toNatClampNeg) none a j).map (mw_rho G))))
        rw [show G.1 + a = H.size by omega, f2]
        congr 2
        funext j
        rw [if_pos e1]
        by_cases e2 : j < x9.toNatClampNeg
        · rw [if_pos e2, if_pos e2]
          show va_rf (some (H.size + 1 + j)) = va_rf (some (mw_rho G (M.2.2.2.2.2 + 1 + j)))
          rw [mw_rho_lt (by omega)]
          congr 2
          omega
        · rw [if_neg e2, if_neg e2]
          rfl
      · rw [if_neg e1] at hk9
        by_cases e2 : M.2.2.2.2.2 ≤ a ∧ a < M.2.2.2.2.2 + 1 + x9.toNatClampNeg
        · rw [if_pos e2] at hk9
          cases hk9
          refine ⟨by omega, ⟨by show 20 < 28; decide, mw_np hC hS (by omega)⟩, ?_⟩
          show F.heap[G.1 + a]? = some (arrV (G.2.2.1 0) y9.toNatClampNeg (fun j => .int (mw_zr M.1 M.2.2.2.2.2 (M.2.2.2.2.2 + 1 + x9.toNatClampNeg) 0 a j)))
          rw [show G.1 + a = H.size + 1 + (a - M.2.2.2.2.2 - 1) by omega, hrow _ (by omega), mw_zr_in _ _ e2]
        · rw [if_neg e2] at hk9
          obtain ⟨u1, u2, u3⟩ := hR.2 a k9 hk9
          refine ⟨u1, u2, ?_⟩
          rw [show mw_cell G (mw_mult M x9.toNatClampNeg y9.toNatClampNeg) k9.1 k9.2 a = mw_cell G M k9.1 k9.2 a from mw_cell_congr (mw_zr_out _ _ e2) (mw_zr_out _ _ e2) (mw_zr_out _ _ e2) (by
            show (fun y => if a = M.2.2.2.2.2 then _ else mw_zr M.2.2.2.1 _ _ none a y) = _
            funext y
            rw [if_neg e1, mw_zr_out _ _ e2])]
          exact u3.kept (hold _ u3.lt)
    have hS1 : va_S (mw_A G) s.heap F.heap locs := ⟨Nat.le_trans hS.1 (by rw [f1]; omega), fun x h1 h2 => (hold x (Nat.lt_of_lt_of_le h1 hS.1)).trans (hS.2.1 x h1 h2), hS.2.2⟩
    obtain ⟨t, a1, b1⟩ := h F.heap locs (cells + (1 + x9.toNatClampNeg)) (slots + (x9.toNatClampNeg + x9.toNatClampNeg * y9.toNatClampNeg)) lsR hR1 hS1 hL (by dsimp only; omega) (by dsimp only; omega) F rfl (by
      rw [show cells + (1 + x9.toNatClampNeg) = cells + 1 + x9.toNatClampNeg by omega, show slots + (x9.toNatClampNeg + x9.toNatClampNeg * y9.toNatClampNeg) = slots + x9.toNatClampNeg + x9.toNatClampNeg * y9.toNatClampNeg by omega]
      exact X')
    refine ⟨t, step t ?_, b1⟩
    rw [show T.heap.size = mw_rho G M.2.2.2.2.2 by rw [hT, hz0, mw_rho_lt (by omega)]]
    exact a1
  · exact h.elim
theorem mw_i_ireturn (hB : mw_Bd G p s m args meth cc cd) {q : mw_I} {pc : Nat} {ls : List (Option Value)} {st : List Value} {M : mw_Mem} {c sl : Nat} {sc : Nat × (Nat → Int32)} {rt : Option FieldType} {Qr : Option Value → mw_Mem → Prop} {Qx : Nat → mw_Mem → Prop} (hrt : rt = cd.2.2.2.1) (hq : q.1 = .ireturn) (hc : mw_chkI cd.1 cd.2.1 pc q = true) (h : mw_app (mw_ins sc rt q pc ls st M c sl) (mw_WF G p l e R s m args below meth cc cd.2.2.1 CT ST (vx_MQ below (mw_QC G Qr) (mw_XC G Qx) args s CT ST (mw_A G))) Qr) : mw_WF G p l e R s m args below meth cc cd.2.2.1 CT ST (vx_MQ below (mw_QC G Qr) (mw_XC G Qx) args s CT ST (mw_A G)) (pc, ls, st, M, c, sl) := by
  obtain ⟨hx, hb, hml, hr, hlk, hown, hnm, hts, hC⟩ := hB
  obtain ⟨i, len, ⟨r1, r2, r3⟩, ps, y, k⟩ := q
  dsimp only at hq
  subst hq
  unfold mw_chkI at hc
  simp only [Bool.and_eq_true, decide_eq_true_eq] at hc
  obtain ⟨hd, hc⟩ := hc
  have hd := mw_dec_eq hd
  try dsimp only at hd hc
  unfold mw_ins at h
  try dsimp only at h
  intro H locs cells slots lsR hR hS hL hcc hss
  dsimp only at hR hS hL hcc hss ⊢

  obtain rfl := hc
  subst hrt
  split at h
  · rename_i x
    split at h
    · rename_i hret
      refine W.widen (k := CT) (n := ST) (by omega) (by omega) (vx_ret ?_)
      exact W.iret hx hb (hr.trans hret) (fun t ht hW => ⟨⟨some (.int x), M, rfl, h, by rw [ht]; exact hR⟩, hS.F ht⟩) hS.2.2 hd hlk
    · obtain ⟨⟨ty, hret, hn⟩, h⟩ := h
      refine W.widen (k := CT) (n := ST) (by omega) (by omega) (vx_ret ?_)
      exact W.zret hx hb (hr.trans hret) hn (fun t ht hW => ⟨⟨some (.int x), M, rfl, h, by rw [ht]; exact hR⟩, hS.F ht⟩) hS.2.2 hd hlk
  · exact h.elim
theorem mw_i_lreturn (hB : mw_Bd G p s m args meth cc cd) {q : mw_I} {pc : Nat} {ls : List (Option Value)} {st : List Value} {M : mw_Mem} {c sl : Nat} {sc : Nat × (Nat → Int32)} {rt : Option FieldType} {Qr : Option Value → mw_Mem → Prop} {Qx : Nat → mw_Mem → Prop} (hrt : rt = cd.2.2.2.1) (hq : q.1 = .lreturn) (hc : mw_chkI cd.1 cd.2.1 pc q = true) (h : mw_app (mw_ins sc rt q pc ls st M c sl) (mw_WF G p l e R s m args below meth cc cd.2.2.1 CT ST (vx_MQ below (mw_QC G Qr) (mw_XC G Qx) args s CT ST (mw_A G))) Qr) : mw_WF G p l e R s m args below meth cc cd.2.2.1 CT ST (vx_MQ below (mw_QC G Qr) (mw_XC G Qx) args s CT ST (mw_A G)) (pc, ls, st, M, c, sl) := by
  obtain ⟨hx, hb, hml, hr, hlk, hown, hnm, hts, hC⟩ := hB
  obtain ⟨i, len, ⟨r1, r2, r3⟩, ps, y, k⟩ := q
  dsimp only at hq
  subst hq
  unfold mw_chkI at hc
  simp only [Bool.and_eq_true, decide_eq_true_eq] at hc
  obtain ⟨hd, hc⟩ := hc
  have hd := mw_dec_eq hd
  try dsimp only at hd hc
  unfold mw_ins at h
  try dsimp only at h
  intro H locs cells slots lsR hR hS hL hcc hss
  dsimp only at hR hS hL hcc hss ⊢

  obtain rfl := hc
  subst hrt
  split at h
  · rename_i x
    split at h
    · rename_i hret
      refine W.widen (k := CT) (n := ST) (by omega) (by omega) (vx_ret ?_)
      exact W.lret hx hb (hr.trans hret) (fun t ht hW => ⟨⟨some (.long x), M, rfl, h, by rw [ht]; exact hR⟩, hS.F ht⟩) hS.2.2 hd hlk
    · exact h.elim
  · exact h.elim
theorem mw_i_freturn (hB : mw_Bd G p s m args meth cc cd) {q : mw_I} {pc : Nat} {ls : List (Option Value)} {st : List Value} {M : mw_Mem} {c sl : Nat} {sc : Nat × (Nat → Int32)} {rt : Option FieldType} {Qr : Option Value → mw_Mem → Prop} {Qx : Nat → mw_Mem → Prop} (hrt : rt = cd.2.2.2.1) (hq : q.1 = .freturn) (hc : mw_chkI cd.1 cd.2.1 pc q = true) (h : mw_app (mw_ins sc rt q pc ls st M c sl) (mw_WF G p l e R s m args below meth cc cd.2.2.1 CT ST (vx_MQ below (mw_QC G Qr) (mw_XC G Qx) args s CT ST (mw_A G))) Qr) : mw_WF G p l e R s m args below meth cc cd.2.2.1 CT ST (vx_MQ below (mw_QC G Qr) (mw_XC G Qx) args s CT ST (mw_A G)) (pc, ls, st, M, c, sl) := by
  obtain ⟨hx, hb, hml, hr, hlk, hown, hnm, hts, hC⟩ := hB
  obtain ⟨i, len, ⟨r1, r2, r3⟩, ps, y, k⟩ := q
  dsimp only at hq
  subst hq
  unfold mw_chkI at hc
  simp only [Bool.and_eq_true, decide_eq_true_eq] at hc
  obtain ⟨hd, hc⟩ := hc
  have hd := mw_dec_eq hd
  try dsimp only at hd hc
  unfold mw_ins at h
  try dsimp only at h
  intro H locs cells slots lsR hR hS hL hcc hss
  dsimp only at hR hS hL hcc hss ⊢

  obtain rfl := hc
  subst hrt
  split at h
  · rename_i x
    split at h
    · rename_i hret
      refine W.widen (k := CT) (n := ST) (by omega) (by omega) (vx_ret ?_)
      exact W.fret hx hb (hr.trans hret) (fun t ht hW => ⟨⟨some (.float x), M, rfl, h, by rw [ht]; exact hR⟩, hS.F ht⟩) hS.2.2 hd hlk
    · exact h.elim
  · exact h.elim
theorem mw_i_dreturn (hB : mw_Bd G p s m args meth cc cd) {q : mw_I} {pc : Nat} {ls : List (Option Value)} {st : List Value} {M : mw_Mem} {c sl : Nat} {sc : Nat × (Nat → Int32)} {rt : Option FieldType} {Qr : Option Value → mw_Mem → Prop} {Qx : Nat → mw_Mem → Prop} (hrt : rt = cd.2.2.2.1) (hq : q.1 = .dreturn) (hc : mw_chkI cd.1 cd.2.1 pc q = true) (h : mw_app (mw_ins sc rt q pc ls st M c sl) (mw_WF G p l e R s m args below meth cc cd.2.2.1 CT ST (vx_MQ below (mw_QC G Qr) (mw_XC G Qx) args s CT ST (mw_A G))) Qr) : mw_WF G p l e R s m args below meth cc cd.2.2.1 CT ST (vx_MQ below (mw_QC G Qr) (mw_XC G Qx) args s CT ST (mw_A G)) (pc, ls, st, M, c, sl) := by
  obtain ⟨hx, hb, hml, hr, hlk, hown, hnm, hts, hC⟩ := hB
  obtain ⟨i, len, ⟨r1, r2, r3⟩, ps, y, k⟩ := q
  dsimp only at hq
  subst hq
  unfold mw_chkI at hc
  simp only [Bool.and_eq_true, decide_eq_true_eq] at hc
  obtain ⟨hd, hc⟩ := hc
  have hd := mw_dec_eq hd
  try dsimp only at hd hc
  unfold mw_ins at h
  try dsimp only at h
  intro H locs cells slots lsR hR hS hL hcc hss
  dsimp only at hR hS hL hcc hss ⊢

  obtain rfl := hc
  subst hrt
  split at h
  · rename_i x
    split at h
    · rename_i hret
      refine W.widen (k := CT) (n := ST) (by omega) (by omega) (vx_ret ?_)
      exact W.dret hx hb (hr.trans hret) (fun t ht hW => ⟨⟨some (.double x), M, rfl, h, by rw [ht]; exact hR⟩, hS.F ht⟩) hS.2.2 hd hlk
    · exact h.elim
  · exact h.elim
theorem mw_i_areturn (hB : mw_Bd G p s m args meth cc cd) {q : mw_I} {pc : Nat} {ls : List (Option Value)} {st : List Value} {M : mw_Mem} {c sl : Nat} {sc : Nat × (Nat → Int32)} {rt : Option FieldType} {Qr : Option Value → mw_Mem → Prop} {Qx : Nat → mw_Mem → Prop} (hrt : rt = cd.2.2.2.1) (hq : q.1 = .areturn) (hc : mw_chkI cd.1 cd.2.1 pc q = true) (h : mw_app (mw_ins sc rt q pc ls st M c sl) (mw_WF G p l e R s m args below meth cc cd.2.2.1 CT ST (vx_MQ below (mw_QC G Qr) (mw_XC G Qx) args s CT ST (mw_A G))) Qr) : mw_WF G p l e R s m args below meth cc cd.2.2.1 CT ST (vx_MQ below (mw_QC G Qr) (mw_XC G Qx) args s CT ST (mw_A G)) (pc, ls, st, M, c, sl) := by
  obtain ⟨hx, hb, hml, hr, hlk, hown, hnm, hts, hC⟩ := hB
  obtain ⟨i, len, ⟨r1, r2, r3⟩, ps, y, k⟩ := q
  dsimp only at hq
  subst hq
  unfold mw_chkI at hc
  simp only [Bool.and_eq_true, decide_eq_true_eq] at hc
  obtain ⟨hd, hc⟩ := hc
  have hd := mw_dec_eq hd
  try dsimp only at hd hc
  unfold mw_ins at h
  try dsimp only at h
  intro H locs cells slots lsR hR hS hL hcc hss
  dsimp only at hR hS hL hcc hss ⊢

  obtain rfl := hc
  subst hrt
  split at h
  · rename_i x
    split at h
    · rename_i hret
      have hty : ∃ ty, cd.2.2.2.1 = some ty ∧ ((∃ n, ty = .object n) ∨ ∃ t, ty = .array t) := by
        unfold mw_isref at hret
        split at hret
        · rename_i n e9
          exact ⟨_, e9, Or.inl ⟨n, rfl⟩⟩
        · rename_i n e9
          exact ⟨_, e9, Or.inr ⟨n, rfl⟩⟩
        · cases hret
      obtain ⟨ty, e9, hty⟩ := hty
      refine W.widen (k := CT) (n := ST) (by omega) (by omega) (vx_ret ?_)
      exact W.aret hx hb (hr.trans e9) hty (Or.inr ⟨mw_rho G x, rfl⟩) (fun t ht hW => ⟨⟨some (.ref x), M, rfl, h, by rw [ht]; exact hR⟩, hS.F ht⟩) hS.2.2 hd hlk
    · exact h.elim
  · exact h.elim
theorem mw_i_return_ (hB : mw_Bd G p s m args meth cc cd) {q : mw_I} {pc : Nat} {ls : List (Option Value)} {st : List Value} {M : mw_Mem} {c sl : Nat} {sc : Nat × (Nat → Int32)} {rt : Option FieldType} {Qr : Option Value → mw_Mem → Prop} {Qx : Nat → mw_Mem → Prop} (hrt : rt = cd.2.2.2.1) (hq : q.1 = .return_) (hc : mw_chkI cd.1 cd.2.1 pc q = true) (h : mw_app (mw_ins sc rt q pc ls st M c sl) (mw_WF G p l e R s m args below meth cc cd.2.2.1 CT ST (vx_MQ below (mw_QC G Qr) (mw_XC G Qx) args s CT ST (mw_A G))) Qr) : mw_WF G p l e R s m args below meth cc cd.2.2.1 CT ST (vx_MQ below (mw_QC G Qr) (mw_XC G Qx) args s CT ST (mw_A G)) (pc, ls, st, M, c, sl) := by
  obtain ⟨hx, hb, hml, hr, hlk, hown, hnm, hts, hC⟩ := hB
  obtain ⟨i, len, ⟨r1, r2, r3⟩, ps, y, k⟩ := q
  dsimp only at hq
  subst hq
  unfold mw_chkI at hc
  simp only [Bool.and_eq_true, decide_eq_true_eq] at hc
  obtain ⟨hd, hc⟩ := hc
  have hd := mw_dec_eq hd
  try dsimp only at hd hc
  unfold mw_ins at h
  try dsimp only at h
  intro H locs cells slots lsR hR hS hL hcc hss
  dsimp only at hR hS hL hcc hss ⊢

  obtain rfl := hc
  subst hrt
  split at h
  · split at h
    · rename_i hret
      refine W.widen (k := CT) (n := ST) (by omega) (by omega) (vx_ret ?_)
      exact W.vret hx hb (hr.trans hret) (fun t ht hW => ⟨⟨none, M, rfl, h, by rw [ht]; exact hR⟩, hS.F ht⟩) hS.2.2 hd hlk
    · exact h.elim
  · exact h.elim
end
