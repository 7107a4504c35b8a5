/-! each instruction of the abstract machine, over the machine -/
def mw_QC (G : mw_G) (Qr : Option Value → mw_Mem → Prop) : Array Value → State → Outcome → State → Prop := fun _ st o t => (∃ (v : Option Value) (M : mw_Mem), o = .returned (v.map (mw_tr G)) ∧ Qr v M ∧ mw_Rel G M t.heap) ∧ va_F (mw_A G) st t
def mw_XC (G : mw_G) (Qx : Nat → mw_Mem → Prop) : String → State → State → Prop := fun E st t => (∃ (e : Nat) (M : mw_Mem), (E = mw_exn e ∧ e < 6) ∧ Qx e M ∧ mw_Rel G M t.heap) ∧ va_F (mw_A G) st t
theorem mw_o10 {a : Nat} (h : 1000001 ≤ a ∧ a < 1000031) : ∃ i : Nat, i < 30 ∧ a = 1000001 + i ∧ a + 100 = 1000101 + i := ⟨a - 1000001, by omega, by omega, by omega⟩
/-- statics, tables and string constants, that nobody writes -/
def mw_Old (G : mw_G) (s : State) : Prop := va_Z "java/lang/String" "COMPACT_STRINGS" "Z" (.int 1) (mw_A G) s s.heap ∧ va_Z "java/lang/Integer" "DigitOnes" "[B" (.ref (mw_rho G 1000201)) (mw_A G) s s.heap ∧ va_Z "java/lang/Integer" "DigitTens" "[B" (.ref (mw_rho G 1000202)) (mw_A G) s s.heap ∧ va_Z "jdk/internal/util/Preconditions" "SIOOBE_FORMATTER" "Ljava/util/function/BiFunction;" (mw_fm G) (mw_A G) s s.heap ∧ va_T .byte (mw_rho G 1000201) 100 (fun j => .int (mw_ob 1000201 j)) (mw_A G) s s.heap ∧ va_T .byte (mw_rho G 1000202) 100 (fun j => .int (mw_ob 1000202 j)) (mw_A G) s s.heap ∧ vk_S 30 mw_oL mw_oS (fun i => mw_rho G (1000001 + i)) (fun i => mw_rho G (1000101 + i)) (mw_A G) s s.heap ∧ ∀ i : Nat, i < 30 → vk_R (mw_oC.getD i ("", 0)).1 (mw_oC.getD i ("", 0)).2 (mw_oT.getD i "") (mw_rho G (1000001 + i)) s
theorem mw_Old_T {G : mw_G} {s : State} (h : mw_Old G s) {a : Nat} (ha : mw_oa a = true) : va_T .byte (mw_rho G a) (mw_ol a) (fun j => .int (mw_ob a j)) (mw_A G) s s.heap := by
  unfold mw_oa at ha
  simp only [Bool.or_eq_true, Bool.and_eq_true, decide_eq_true_eq] at ha
  rcases ha with ⟨h1, h2⟩ | rfl | rfl
  · obtain ⟨i, rfl⟩ : ∃ i, a = 1000101 + i := ⟨a - 1000101, by omega⟩
    have e := (h.2.2.2.2.2.2.1.1 i (by omega)).2.2.2
    have e1 : mw_ol (1000101 + i) = mw_oL.getD i 0 := by
      unfold mw_ol
      rw [if_pos h2, show 1000101 + i - 1000101 = i by omega]
    have e2 : (fun j => Value.int (mw_ob (1000101 + i) j)) = fun j => Value.int ((mw_oS.getD i []).getD j 0) := by
      funext j
      unfold mw_ob
      rw [if_pos h2, show 1000101 + i - 1000101 = i by omega]
    rw [e1, e2]
    exact e
  · exact h.2.2.2.2.1
  · exact h.2.2.2.2.2.1
/-- the cache of small Integers, the empty row of a fresh list; the iterator's words -/
def mw_itr (nm : String × String) : MethodName × MethodName := (⟨"java/util/Iterator", nm.1, nm.2⟩, ⟨"java/util/ArrayList$Itr", nm.1, nm.2⟩)
def mw_Old2 (G : mw_G) (s : State) : Prop := va_Z "java/lang/Integer$IntegerCache" "high" "I" (.int 127) (mw_A G) s s.heap ∧ va_Z "java/lang/Integer$IntegerCache" "cache" "[Ljava/lang/Integer;" (.ref (mw_rho G 1000400)) (mw_A G) s s.heap ∧ va_Z "java/util/ArrayList" "DEFAULTCAPACITY_EMPTY_ELEMENTDATA" "[Ljava/lang/Object;" (.ref (mw_rho G 1000203)) (mw_A G) s s.heap ∧ va_T (.object "java/lang/Integer") (mw_rho G 1000400) 256 (fun k => .ref (mw_rho G (1000500 + k))) (mw_A G) s s.heap ∧ vb_C (fun k => mw_rho G (1000500 + k)) (mw_A G) s s.heap ∧ va_T (.object "java/lang/Object") (mw_rho G 1000203) 0 (fun _ => .null) (mw_A G) s s.heap ∧ ∀ nm : String × String, nm = ("hasNext", "()Z") ∨ nm = ("next", "()Ljava/lang/Object;") → va_Fw "java/util/ArrayList$Itr" (mw_itr nm).1 (mw_itr nm).2 s
/-- what holds of old things, in a method's start s -/
def mw_Ctx (G : mw_G) (s : State) : Prop := va_K G.2.1 vwCl (mw_tys G) s ∧ (va_X (G.2.2.2.1 1000000) G.2.2.2.2.1 G.2.2.2.2.2 s s.heap ∧ mw_Old G s) ∧ G.2.2.2.1 1000000 < G.1 ∧ (G.1 ≤ s.heap.size ∧ ∀ q, mw_prot G q → q < s.heap.size) ∧ (∀ w ∈ mw_N, va_Nw w s) ∧ vx_Zq Bundle.tN "UNASSIGNED_STACK" Bundle.steD (mw_A G) s s.heap ∧ vx_Zq Bundle.tN "SUPPRESSED_SENTINEL" Bundle.listD (mw_A G) s s.heap ∧ (∀ e f : Nat, e < 6 → f < 5 → e ≠ f → va_Nc (mw_exn e) (mw_exn f) s) ∧ mw_Old2 G s
section
variable {G : mw_G} {p : Program} {l : Launch} {e : Env} {R : Room} {s : State} {m : MethodId} {args : Array Value} {below : List Frame} {meth : Method} {cc : Code} {cd : mw_CD} {CT ST : Nat} {Q : State → Prop}
def mw_WF (G : mw_G) (p : Program) (l : Launch) (e : Env) (R : Room) (s : State) (m : MethodId) (args : Array Value) (below : List Frame) (meth : Method) (cc : Code) (nL CT ST : Nat) (Q : State → Prop) (f : mw_Fr) : Prop :=
  ∀ (H : Heap) (locs : List Loc) (cells slots : Nat) (lsR : Array Slot), mw_Rel G f.2.2.2.1 H → va_S (mw_A G) s.heap H locs → mw_LR G nL f.2.1 lsR → cells + f.2.2.2.2.1 = CT → slots + f.2.2.2.2.2 = ST →
    W p l e R s m args below meth cc H locs cells slots Q (F0 m f.1 lsR (f.2.2.1.map (mw_tr G)))
/-- what a method's body knows -/
def mw_Bd (G : mw_G) (p : Program) (s : State) (m : MethodId) (args : Array Value) (meth : Method) (cc : Code) (cd : mw_CD) : Prop :=
  p.tables.exec = Jvm.exec ∧ cc.code = cd.2.1 ∧ cc.maxLocals = cd.2.2.1 ∧ meth.sig.returnType = cd.2.2.2.1 ∧ meth.locks = false ∧ s.vm.findClass cd.1.cls = some m.cls ∧ meth.name = cd.1.name ∧ (∀ w ∈ mw_T, w.before args s = true) ∧ mw_Ctx G s
theorem mw_o500 {a : Nat} (h : 1000500 ≤ a ∧ a < 1000756) : ∃ k : Nat, k < 256 ∧ a = 1000500 + k := ⟨a - 1000500, by omega, by omega⟩
theorem mw_np (hC : mw_Ctx G s) {H : Heap} {locs : List Loc} (hS : va_S (mw_A G) s.heap H locs) {q : Nat} (h : H.size ≤ q) : ¬ mw_prot G q := fun z => by have h1 := hC.2.2.2.1.2 q z; have h2 := hS.1; omega
theorem mw_wf_nx {pc : Nat} {ls : List (Option Value)} {st : List Value} {M : mw_Mem} {c sl : Nat} {Qr : Option Value → mw_Mem → Prop} (h : mw_app (mw_nx pc ls st M c sl) (mw_WF G p l e R s m args below meth cc cd.2.2.1 CT ST Q) Qr) : mw_WF G p l e R s m args below meth cc cd.2.2.1 CT ST Q (pc, ls, st, M, c, sl) := h
/-- the type of an array's place -/
theorem mw_ArrOf (hC : mw_Ctx G s) {j : Nat} (hj : j < 8) : ArrOfT s (G.2.2.1 j) (mw_aty j) ∧ va_RA s (G.2.2.1 j) (mw_aty j) := hC.1.2 j (G.2.2.1 j, mw_aty j) (by simp [mw_tys, hj])

theorem mw_i_iconst (hB : mw_Bd G p s m args meth cc cd) {q : mw_I} {pc : Nat} {ls : List (Option Value)} {st : List Value} {M : mw_Mem} {c sl : Nat} {sc : Nat × (Nat → Int32)} {rt : Option FieldType} {Qr : Option Value → mw_Mem → Prop} {n : Int} (hq : q.1 = .iconst n) (hc : mw_chkI cd.1 cd.2.1 pc q = true) (h : mw_app (mw_ins sc rt q pc ls st M c sl) (mw_WF G p l e R s m args below meth cc cd.2.2.1 CT ST Q) Qr) : mw_WF G p l e R s m args below meth cc cd.2.2.1 CT ST Q (pc, ls, st, M, c, sl) := by
  obtain ⟨hx, hb, hml, hr, hlk, hown, hnm, hts, hC⟩ := hB
  obtain ⟨i, len, ⟨r1, r2, r3⟩, ps, y, k⟩ := q
  dsimp only at hq
  subst hq
  unfold mw_chkI at hc
  simp only [Bool.and_eq_true, decide_eq_true_eq] at hc
  obtain ⟨hd, hc⟩ := hc
  have hd := mw_dec_eq hd
  try dsimp only at hd hc
  unfold mw_ins at h
  try dsimp only at h
  intro H locs cells slots lsR hR hS hL hcc hss
  dsimp only at hR hS hL hcc hss ⊢

  obtain ⟨hc, rfl⟩ := hc
  exact lv_iconst hx hb hd hc (h H locs cells slots lsR hR hS hL hcc hss)
theorem mw_i_bipush (hB : mw_Bd G p s m args meth cc cd) {q : mw_I} {pc : Nat} {ls : List (Option Value)} {st : List Value} {M : mw_Mem} {c sl : Nat} {sc : Nat × (Nat → Int32)} {rt : Option FieldType} {Qr : Option Value → mw_Mem → Prop} {n : Int} (hq : q.1 = .bipush n) (hc : mw_chkI cd.1 cd.2.1 pc q = true) (h : mw_app (mw_ins sc rt q pc ls st M c sl) (mw_WF G p l e R s m args below meth cc cd.2.2.1 CT ST Q) Qr) : mw_WF G p l e R s m args below meth cc cd.2.2.1 CT ST Q (pc, ls, st, M, c, sl) := by
  obtain ⟨hx, hb, hml, hr, hlk, hown, hnm, hts, hC⟩ := hB
  obtain ⟨i, len, ⟨r1, r2, r3⟩, ps, y, k⟩ := q
  dsimp only at hq
  subst hq
  unfold mw_chkI at hc
  simp only [Bool.and_eq_true, decide_eq_true_eq] at hc
  obtain ⟨hd, hc⟩ := hc
  have hd := mw_dec_eq hd
  try dsimp only at hd hc
  unfold mw_ins at h
  try dsimp only at h
  intro H locs cells slots lsR hR hS hL hcc hss
  dsimp only at hR hS hL hcc hss ⊢

  obtain ⟨hc, rfl⟩ := hc
  exact lv_bipush hx hb hd hc (h H locs cells slots lsR hR hS hL hcc hss)
theorem mw_i_sipush (hB : mw_Bd G p s m args meth cc cd) {q : mw_I} {pc : Nat} {ls : List (Option Value)} {st : List Value} {M : mw_Mem} {c sl : Nat} {sc : Nat × (Nat → Int32)} {rt : Option FieldType} {Qr : Option Value → mw_Mem → Prop} {n : Int} (hq : q.1 = .sipush n) (hc : mw_chkI cd.1 cd.2.1 pc q = true) (h : mw_app (mw_ins sc rt q pc ls st M c sl) (mw_WF G p l e R s m args below meth cc cd.2.2.1 CT ST Q) Qr) : mw_WF G p l e R s m args below meth cc cd.2.2.1 CT ST Q (pc, ls, st, M, c, sl) := by
  obtain ⟨hx, hb, hml, hr, hlk, hown, hnm, hts, hC⟩ := hB
  obtain ⟨i, len, ⟨r1, r2, r3⟩, ps, y, k⟩ := q
  dsimp only at hq
  subst hq
  unfold mw_chkI at hc
  simp only [Bool.and_eq_true, decide_eq_true_eq] at hc
  obtain ⟨hd, hc⟩ := hc
  have hd := mw_dec_eq hd
  try dsimp only at hd hc
  unfold mw_ins at h
  try dsimp only at h
  intro H locs cells slots lsR hR hS hL hcc hss
  dsimp only at hR hS hL hcc hss ⊢

  obtain ⟨hc, rfl⟩ := hc
  exact lv_sipush hx hb hd hc (h H locs cells slots lsR hR hS hL hcc hss)
theorem mw_i_ldc (hB : mw_Bd G p s m args meth cc cd) {q : mw_I} {pc : Nat} {ls : List (Option Value)} {st : List Value} {M : mw_Mem} {c sl : Nat} {sc : Nat × (Nat → Int32)} {rt : Option FieldType} {Qr : Option Value → mw_Mem → Prop} {n : Nat} (hq : q.1 = .ldc n) (hc : mw_chkI cd.1 cd.2.1 pc q = true) (h : mw_app (mw_ins sc rt q pc ls st M c sl) (mw_WF G p l e R s m args below meth cc cd.2.2.1 CT ST Q) Qr) : mw_WF G p l e R s m args below meth cc cd.2.2.1 CT ST Q (pc, ls, st, M, c, sl) := by
  obtain ⟨hx, hb, hml, hr, hlk, hown, hnm, hts, hC⟩ := hB
  obtain ⟨i, len, ⟨r1, r2, r3⟩, ps, y, k⟩ := q
  dsimp only at hq
  subst hq
  unfold mw_chkI at hc
  simp only [Bool.and_eq_true, decide_eq_true_eq] at hc
  obtain ⟨hd, hc⟩ := hc
  have hd := mw_dec_eq hd
  try dsimp only at hd hc
  unfold mw_ins at h
  try dsimp only at h
  intro H locs cells slots lsR hR hS hL hcc hss
  dsimp only at hR hS hL hcc hss ⊢

  by_cases z : r1 = 1
  · subst z
    rw [if_pos rfl] at h
    try dsimp only at hc
    simp only [decide_eq_true_eq] at hc
    obtain ⟨e1, rfl⟩ := hc
    have e3 : r2 < 30 := (List.getElem?_eq_some_iff.mp e1).1
    have hk := hC.2.1.2.2.2.2.2.2.2.2 r2 e3
    rw [show mw_oC.getD r2 ("", 0) = (cd.1.cls, n) by rw [List.getD_eq_getElem?_getD, e1]; rfl] at hk
    have hh := h H locs cells slots lsR hR hS hL hcc hss
    exact va_ldcS hx hb hown hk hd hh
  · rw [if_neg z] at h
    split at hc
    · exact absurd rfl z
    · simp only [Bool.and_eq_true, decide_eq_true_eq] at hc
      obtain ⟨hc, rfl⟩ := hc
      exact lv_ldc hx hb hown (hts _ (mw_wd_in hc)) hd (h H locs cells slots lsR hR hS hL hcc hss)
theorem mw_ldcwS {H : Heap} {locs : List Loc} {cells slots pc : Nat} {ls : Array Slot} {rest : List Value} {cb : ByteArray} (hexec : p.tables.exec = Jvm.exec) (hb : cc.code = cb) {own tx : String} {index q : Nat} (hown : s.vm.findClass own = some m.cls) (hZ : vk_R own index tx q s) (hdg : decode cb pc = .ok (.ldc_w index, 3))
    (k : W p l e R s m args below meth cc H locs cells slots Q (F0 m (pc + 3) ls (.ref q :: rest))) : W p l e R s m args below meth cc H locs cells slots Q (F0 m pc ls rest) := by
  intro T hT X
  obtain ⟨t, a1, b1⟩ := k T hT X
  exact ⟨t, X.ldcStringW hexec hown (text := tx) (a := q) hZ.1 hZ.2 (g := F0 m pc ls rest) rfl (by rw [hb]; exact hdg) t a1, b1⟩
theorem mw_i_ldc_w (hB : mw_Bd G p s m args meth cc cd) {q : mw_I} {pc : Nat} {ls : List (Option Value)} {st : List Value} {M : mw_Mem} {c sl : Nat} {sc : Nat × (Nat → Int32)} {rt : Option FieldType} {Qr : Option Value → mw_Mem → Prop} {n : Nat} (hq : q.1 = .ldc_w n) (hc : mw_chkI cd.1 cd.2.1 pc q = true) (h : mw_app (mw_ins sc rt q pc ls st M c sl) (mw_WF G p l e R s m args below meth cc cd.2.2.1 CT ST Q) Qr) : mw_WF G p l e R s m args below meth cc cd.2.2.1 CT ST Q (pc, ls, st, M, c, sl) := by
  obtain ⟨hx, hb, hml, hr, hlk, hown, hnm, hts, hC⟩ := hB
  obtain ⟨i, len, ⟨r1, r2, r3⟩, ps, y, k⟩ := q
  dsimp only at hq
  subst hq
  unfold mw_chkI at hc
  simp only [Bool.and_eq_true, decide_eq_true_eq] at hc
  obtain ⟨hd, hc⟩ := hc
  have hd := mw_dec_eq hd
  try dsimp only at hd hc
  unfold mw_ins at h
  try dsimp only at h
  intro H locs cells slots lsR hR hS hL hcc hss
  dsimp only at hR hS hL hcc hss ⊢

  by_cases z : r1 = 1
  · subst z
    rw [if_pos rfl] at h
    try dsimp only at hc
    simp only [decide_eq_true_eq] at hc
    obtain ⟨e1, rfl⟩ := hc
    have e3 : r2 < 30 := (List.getElem?_eq_some_iff.mp e1).1
    have hk := hC.2.1.2.2.2.2.2.2.2.2 r2 e3
    rw [show mw_oC.getD r2 ("", 0) = (cd.1.cls, n) by rw [List.getD_eq_getElem?_getD, e1]; rfl] at hk
    exact mw_ldcwS hx hb hown hk hd (h H locs cells slots lsR hR hS hL hcc hss)
  · rw [if_neg z] at h
    split at hc
    · exact absurd rfl z
    · simp only [Bool.and_eq_true, decide_eq_true_eq] at hc
      obtain ⟨hc, rfl⟩ := hc
      exact lv_ldcw hx hb hown (hts _ (mw_wd_in hc)) hd (h H locs cells slots lsR hR hS hL hcc hss)
theorem mw_i_getstatic (hB : mw_Bd G p s m args meth cc cd) {q : mw_I} {pc : Nat} {ls : List (Option Value)} {st : List Value} {M : mw_Mem} {c sl : Nat} {sc : Nat × (Nat → Int32)} {rt : Option FieldType} {Qr : Option Value → mw_Mem → Prop} {n : Nat} (hq : q.1 = .getstatic n) (hc : mw_chkI cd.1 cd.2.1 pc q = true) (h : mw_app (mw_ins sc rt q pc ls st M c sl) (mw_WF G p l e R s m args below meth cc cd.2.2.1 CT ST Q) Qr) : mw_WF G p l e R s m args below meth cc cd.2.2.1 CT ST Q (pc, ls, st, M, c, sl) := by
  obtain ⟨hx, hb, hml, hr, hlk, hown, hnm, hts, hC⟩ := hB
  obtain ⟨i, len, ⟨r1, r2, r3⟩, ps, y, k⟩ := q
  dsimp only at hq
  subst hq
  unfold mw_chkI at hc
  simp only [Bool.and_eq_true, decide_eq_true_eq] at hc
  obtain ⟨hd, hc⟩ := hc
  have hd := mw_dec_eq hd
  try dsimp only at hd hc
  unfold mw_ins at h
  try dsimp only at h
  intro H locs cells slots lsR hR hS hL hcc hss
  dsimp only at hR hS hL hcc hss ⊢

  split at hc
  · simp only [Bool.and_eq_true, decide_eq_true_eq] at hc
    obtain ⟨hc, rfl⟩ := hc
    exact va_gets hx hb hC.2.1.2.1 hS hown (hts _ (mw_wd_in hc)) (fun _ h9 => h9) hd (h H locs cells slots lsR hR hS hL hcc hss)
  · simp only [Bool.and_eq_true, decide_eq_true_eq] at hc
    obtain ⟨hc, rfl⟩ := hc
    exact va_gets hx hb hC.2.1.2.2.1 hS hown (hts _ (mw_wd_in hc)) (fun _ h9 => h9) hd (h H locs cells slots lsR hR hS hL hcc hss)
  · simp only [Bool.and_eq_true, decide_eq_true_eq] at hc
    obtain ⟨hc, rfl⟩ := hc
    exact va_gets hx hb hC.2.1.2.2.2.1 hS hown (hts _ (mw_wd_in hc)) (fun _ h9 => h9) hd (h H locs cells slots lsR hR hS hL hcc hss)
  · simp only [Bool.and_eq_true, decide_eq_true_eq] at hc
    obtain ⟨hc, rfl⟩ := hc
    exact va_gets hx hb hC.2.2.2.2.2.2.2.2.1 hS hown (hts _ (mw_wd_in hc)) (fun _ h9 => h9) hd (h H locs cells slots lsR hR hS hL hcc hss)
  · simp only [Bool.and_eq_true, decide_eq_true_eq] at hc
    obtain ⟨hc, rfl⟩ := hc
    exact va_gets hx hb hC.2.2.2.2.2.2.2.2.2.1 hS hown (hts _ (mw_wd_in hc)) (fun _ h9 => h9) hd (h H locs cells slots lsR hR hS hL hcc hss)
  · simp only [Bool.and_eq_true, decide_eq_true_eq] at hc
    obtain ⟨hc, rfl⟩ := hc
    exact va_gets hx hb hC.2.2.2.2.2.2.2.2.2.2.1 hS hown (hts _ (mw_wd_in hc)) (fun _ h9 => h9) hd (h H locs cells slots lsR hR hS hL hcc hss)
  · rename_i z0 z1 z2 z4 z5 z6
    simp only [Bool.and_eq_true, decide_eq_true_eq] at hc
    obtain ⟨hc, rfl⟩ := hc
    split at h
    · exact absurd rfl z0
    · exact absurd rfl z1
    · exact absurd rfl z2
    · exact absurd rfl z4
    · exact absurd rfl z5
    · exact absurd rfl z6
    · exact va_gets hx hb hC.2.1.2.2.2.2.1 hS hown (hts _ (mw_wd_in hc)) (fun _ h9 => h9) hd (h H locs cells slots lsR hR hS hL hcc hss)
theorem mw_i_ldc2_w (hB : mw_Bd G p s m args meth cc cd) {q : mw_I} {pc : Nat} {ls : List (Option Value)} {st : List Value} {M : mw_Mem} {c sl : Nat} {sc : Nat × (Nat → Int32)} {rt : Option FieldType} {Qr : Option Value → mw_Mem → Prop} {n : Nat} (hq : q.1 = .ldc2_w n) (hc : mw_chkI cd.1 cd.2.1 pc q = true) (h : mw_app (mw_ins sc rt q pc ls st M c sl) (mw_WF G p l e R s m args below meth cc cd.2.2.1 CT ST Q) Qr) : mw_WF G p l e R s m args below meth cc cd.2.2.1 CT ST Q (pc, ls, st, M, c, sl) := by
  obtain ⟨hx, hb, hml, hr, hlk, hown, hnm, hts, hC⟩ := hB
  obtain ⟨i, len, ⟨r1, r2, r3⟩, ps, y, k⟩ := q
  dsimp only at hq
  subst hq
  unfold mw_chkI at hc
  simp only [Bool.and_eq_true, decide_eq_true_eq] at hc
  obtain ⟨hd, hc⟩ := hc
  have hd := mw_dec_eq hd
  try dsimp only at hd hc
  unfold mw_ins at h
  try dsimp only at h
  intro H locs cells slots lsR hR hS hL hcc hss
  dsimp only at hR hS hL hcc hss ⊢

  by_cases z : r1 = 1
  · subst z
    rw [if_pos rfl] at h
    try dsimp only at hc
    simp only [Bool.and_eq_true, decide_eq_true_eq] at hc
    obtain ⟨hc, rfl⟩ := hc
    exact lv_ldc2d hx hb hown (hts _ (mw_wd_in hc)) hd (h H locs cells slots lsR hR hS hL hcc hss)
  · rw [if_neg z] at h
    split at hc
    · exact absurd rfl z
    · simp only [Bool.and_eq_true, decide_eq_true_eq] at hc
      obtain ⟨hc, rfl⟩ := hc
      exact lv_ldc2 hx hb hown (hts _ (mw_wd_in hc)) hd (h H locs cells slots lsR hR hS hL hcc hss)
theorem mw_i_aconst_null (hB : mw_Bd G p s m args meth cc cd) {q : mw_I} {pc : Nat} {ls : List (Option Value)} {st : List Value} {M : mw_Mem} {c sl : Nat} {sc : Nat × (Nat → Int32)} {rt : Option FieldType} {Qr : Option Value → mw_Mem → Prop}  (hq : q.1 = .aconst_null) (hc : mw_chkI cd.1 cd.2.1 pc q = true) (h : mw_app (mw_ins sc rt q pc ls st M c sl) (mw_WF G p l e R s m args below meth cc cd.2.2.1 CT ST Q) Qr) : mw_WF G p l e R s m args below meth cc cd.2.2.1 CT ST Q (pc, ls, st, M, c, sl) := by
  obtain ⟨hx, hb, hml, hr, hlk, hown, hnm, hts, hC⟩ := hB
  obtain ⟨i, len, ⟨r1, r2, r3⟩, ps, y, k⟩ := q
  dsimp only at hq
  subst hq
  unfold mw_chkI at hc
  simp only [Bool.and_eq_true, decide_eq_true_eq] at hc
  obtain ⟨hd, hc⟩ := hc
  have hd := mw_dec_eq hd
  try dsimp only at hd hc
  unfold mw_ins at h
  try dsimp only at h
  intro H locs cells slots lsR hR hS hL hcc hss
  dsimp only at hR hS hL hcc hss ⊢

  obtain rfl := hc
  exact lv_null hx hb hd (h H locs cells slots lsR hR hS hL hcc hss)
theorem mw_i_ifnonnull (hB : mw_Bd G p s m args meth cc cd) {q : mw_I} {pc : Nat} {ls : List (Option Value)} {st : List Value} {M : mw_Mem} {c sl : Nat} {sc : Nat × (Nat → Int32)} {rt : Option FieldType} {Qr : Option Value → mw_Mem → Prop} {off : Int} (hq : q.1 = .ifnonnull off) (hc : mw_chkI cd.1 cd.2.1 pc q = true) (h : mw_app (mw_ins sc rt q pc ls st M c sl) (mw_WF G p l e R s m args below meth cc cd.2.2.1 CT ST Q) Qr) : mw_WF G p l e R s m args below meth cc cd.2.2.1 CT ST Q (pc, ls, st, M, c, sl) := by
  obtain ⟨hx, hb, hml, hr, hlk, hown, hnm, hts, hC⟩ := hB
  obtain ⟨i, len, ⟨r1, r2, r3⟩, ps, y, k⟩ := q
  dsimp only at hq
  subst hq
  unfold mw_chkI at hc
  simp only [Bool.and_eq_true, decide_eq_true_eq] at hc
  obtain ⟨hd, hc⟩ := hc
  have hd := mw_dec_eq hd
  try dsimp only at hd hc
  unfold mw_ins at h
  try dsimp only at h
  intro H locs cells slots lsR hR hS hL hcc hss
  dsimp only at hR hS hL hcc hss ⊢

  obtain ⟨ht, rfl⟩ := hc
  split at h
  · exact lv_ifnonnull hx hb hd ht (h H locs cells slots lsR hR hS hL hcc hss)
  · exact h.elim
theorem mw_i_if_acmp (hB : mw_Bd G p s m args meth cc cd) {q : mw_I} {pc : Nat} {ls : List (Option Value)} {st : List Value} {M : mw_Mem} {c sl : Nat} {sc : Nat × (Nat → Int32)} {rt : Option FieldType} {Qr : Option Value → mw_Mem → Prop} {ac : ACond} {off : Int} (hq : q.1 = .if_acmp ac off) (hc : mw_chkI cd.1 cd.2.1 pc q = true) (h : mw_app (mw_ins sc rt q pc ls st M c sl) (mw_WF G p l e R s m args below meth cc cd.2.2.1 CT ST Q) Qr) : mw_WF G p l e R s m args below meth cc cd.2.2.1 CT ST Q (pc, ls, st, M, c, sl) := by
  obtain ⟨hx, hb, hml, hr, hlk, hown, hnm, hts, hC⟩ := hB
  obtain ⟨i, len, ⟨r1, r2, r3⟩, ps, y, k⟩ := q
  dsimp only at hq
  subst hq
  unfold mw_chkI at hc
  simp only [Bool.and_eq_true, decide_eq_true_eq] at hc
  obtain ⟨hd, hc⟩ := hc
  have hd := mw_dec_eq hd
  try dsimp only at hd hc
  unfold mw_ins at h
  try dsimp only at h
  intro H locs cells slots lsR hR hS hL hcc hss
  dsimp only at hR hS hL hcc hss ⊢

  obtain ⟨ht, rfl⟩ := hc
  cases ac with
  | eq =>
    dsimp only at h
    split at h
    · rename_i y9 x9 r9
      split at h
      · rename_i hxy
        subst hxy
        exact lv_acmp_eq (rx := some (mw_rho G x9)) (ry := some (mw_rho G x9)) hx hb hd ht (fun _ => h H locs cells slots lsR hR hS hL hcc hss) (fun z => absurd rfl z)
      · exact h.elim
    · exact h.elim
  | ne => exact h.elim
theorem mw_i_checkcast (hB : mw_Bd G p s m args meth cc cd) {q : mw_I} {pc : Nat} {ls : List (Option Value)} {st : List Value} {M : mw_Mem} {c sl : Nat} {sc : Nat × (Nat → Int32)} {rt : Option FieldType} {Qr : Option Value → mw_Mem → Prop} {n : Nat} (hq : q.1 = .checkcast n) (hc : mw_chkI cd.1 cd.2.1 pc q = true) (h : mw_app (mw_ins sc rt q pc ls st M c sl) (mw_WF G p l e R s m args below meth cc cd.2.2.1 CT ST Q) Qr) : mw_WF G p l e R s m args below meth cc cd.2.2.1 CT ST Q (pc, ls, st, M, c, sl) := by
  obtain ⟨hx, hb, hml, hr, hlk, hown, hnm, hts, hC⟩ := hB
  obtain ⟨i, len, ⟨r1, r2, r3⟩, ps, y, k⟩ := q
  dsimp only at hq
  subst hq
  unfold mw_chkI at hc
  simp only [Bool.and_eq_true, decide_eq_true_eq] at hc
  obtain ⟨hd, hc⟩ := hc
  have hd := mw_dec_eq hd
  try dsimp only at hd hc
  unfold mw_ins at h
  try dsimp only at h
  intro H locs cells slots lsR hR hS hL hcc hss
  dsimp only at hR hS hL hcc hss ⊢

  obtain ⟨hc, rfl⟩ := hc
  split at h
  · rename_i a st0
    split at h
    · rename_i hz
      obtain ⟨k9, hk9, rfl⟩ := mw_o500 hz
      obtain ⟨cellV, g1, g2, g3, -⟩ := (hC.2.2.2.2.2.2.2.2.2.2.2.2.1.1 k9 hk9).kept hS.2.1
      exact va_castE hx hb hown (hts _ (mw_wd_in hc)) ⟨cellV, g1, g2, g3⟩ hd (h H locs cells slots lsR hR hS hL hcc hss)
    · exact h.elim
  · exact h.elim
theorem mw_i_l2i (hB : mw_Bd G p s m args meth cc cd) {q : mw_I} {pc : Nat} {ls : List (Option Value)} {st : List Value} {M : mw_Mem} {c sl : Nat} {sc : Nat × (Nat → Int32)} {rt : Option FieldType} {Qr : Option Value → mw_Mem → Prop}  (hq : q.1 = .l2i) (hc : mw_chkI cd.1 cd.2.1 pc q = true) (h : mw_app (mw_ins sc rt q pc ls st M c sl) (mw_WF G p l e R s m args below meth cc cd.2.2.1 CT ST Q) Qr) : mw_WF G p l e R s m args below meth cc cd.2.2.1 CT ST Q (pc, ls, st, M, c, sl) := by
  obtain ⟨hx, hb, hml, hr, hlk, hown, hnm, hts, hC⟩ := hB
  obtain ⟨i, len, ⟨r1, r2, r3⟩, ps, y, k⟩ := q
  dsimp only at hq
  subst hq
  unfold mw_chkI at hc
  simp only [Bool.and_eq_true, decide_eq_true_eq] at hc
  obtain ⟨hd, hc⟩ := hc
  have hd := mw_dec_eq hd
  try dsimp only at hd hc
  unfold mw_ins at h
  try dsimp only at h
  intro H locs cells slots lsR hR hS hL hcc hss
  dsimp only at hR hS hL hcc hss ⊢

  obtain rfl := hc
  split at h
  · exact lv_l2i hx hb hd rfl (h H locs cells slots lsR hR hS hL hcc hss)
  · exact h.elim
theorem mw_i_lconst (hB : mw_Bd G p s m args meth cc cd) {q : mw_I} {pc : Nat} {ls : List (Option Value)} {st : List Value} {M : mw_Mem} {c sl : Nat} {sc : Nat × (Nat → Int32)} {rt : Option FieldType} {Qr : Option Value → mw_Mem → Prop} {n : Fin 2} (hq : q.1 = .lconst n) (hc : mw_chkI cd.1 cd.2.1 pc q = true) (h : mw_app (mw_ins sc rt q pc ls st M c sl) (mw_WF G p l e R s m args below meth cc cd.2.2.1 CT ST Q) Qr) : mw_WF G p l e R s m args below meth cc cd.2.2.1 CT ST Q (pc, ls, st, M, c, sl) := by
  obtain ⟨hx, hb, hml, hr, hlk, hown, hnm, hts, hC⟩ := hB
  obtain ⟨i, len, ⟨r1, r2, r3⟩, ps, y, k⟩ := q
  dsimp only at hq
  subst hq
  unfold mw_chkI at hc
  simp only [Bool.and_eq_true, decide_eq_true_eq] at hc
  obtain ⟨hd, hc⟩ := hc
  have hd := mw_dec_eq hd
  try dsimp only at hd hc
  unfold mw_ins at h
  try dsimp only at h
  intro H locs cells slots lsR hR hS hL hcc hss
  dsimp only at hR hS hL hcc hss ⊢

  obtain rfl := hc
  exact lv_lconst hx hb hd rfl (h H locs cells slots lsR hR hS hL hcc hss)
theorem mw_i_dconst (hB : mw_Bd G p s m args meth cc cd) {q : mw_I} {pc : Nat} {ls : List (Option Value)} {st : List Value} {M : mw_Mem} {c sl : Nat} {sc : Nat × (Nat → Int32)} {rt : Option FieldType} {Qr : Option Value → mw_Mem → Prop} {n : Fin 2} (hq : q.1 = .dconst n) (hc : mw_chkI cd.1 cd.2.1 pc q = true) (h : mw_app (mw_ins sc rt q pc ls st M c sl) (mw_WF G p l e R s m args below meth cc cd.2.2.1 CT ST Q) Qr) : mw_WF G p l e R s m args below meth cc cd.2.2.1 CT ST Q (pc, ls, st, M, c, sl) := by
  obtain ⟨hx, hb, hml, hr, hlk, hown, hnm, hts, hC⟩ := hB
  obtain ⟨i, len, ⟨r1, r2, r3⟩, ps, y, k⟩ := q
  dsimp only at hq
  subst hq
  unfold mw_chkI at hc
  simp only [Bool.and_eq_true, decide_eq_true_eq] at hc
  obtain ⟨hd, hc⟩ := hc
  have hd := mw_dec_eq hd
  try dsimp only at hd hc
  unfold mw_ins at h
  try dsimp only at h
  intro H locs cells slots lsR hR hS hL hcc hss
  dsimp only at hR hS hL hcc hss ⊢

  obtain rfl := hc
  split at h
  · rename_i hn
    subst hn
    exact lv_dconst0 hx hb hd (h H locs cells slots lsR hR hS hL hcc hss)
  · exact h.elim
theorem mw_i_fconst (hB : mw_Bd G p s m args meth cc cd) {q : mw_I} {pc : Nat} {ls : List (Option Value)} {st : List Value} {M : mw_Mem} {c sl : Nat} {sc : Nat × (Nat → Int32)} {rt : Option FieldType} {Qr : Option Value → mw_Mem → Prop} {n : Fin 3} (hq : q.1 = .fconst n) (hc : mw_chkI cd.1 cd.2.1 pc q = true) (h : mw_app (mw_ins sc rt q pc ls st M c sl) (mw_WF G p l e R s m args below meth cc cd.2.2.1 CT ST Q) Qr) : mw_WF G p l e R s m args below meth cc cd.2.2.1 CT ST Q (pc, ls, st, M, c, sl) := by
  obtain ⟨hx, hb, hml, hr, hlk, hown, hnm, hts, hC⟩ := hB
  obtain ⟨i, len, ⟨r1, r2, r3⟩, ps, y, k⟩ := q
  dsimp only at hq
  subst hq
  unfold mw_chkI at hc
  simp only [Bool.and_eq_true, decide_eq_true_eq] at hc
  obtain ⟨hd, hc⟩ := hc
  have hd := mw_dec_eq hd
  try dsimp only at hd hc
  unfold mw_ins at h
  try dsimp only at h
  intro H locs cells slots lsR hR hS hL hcc hss
  dsimp only at hR hS hL hcc hss ⊢

  obtain rfl := hc
  split at h
  · rename_i hn
    subst hn
    exact lv_fconst0 hx hb hd (h H locs cells slots lsR hR hS hL hcc hss)
  · exact h.elim
theorem mw_i_iload_n (hB : mw_Bd G p s m args meth cc cd) {q : mw_I} {pc : Nat} {ls : List (Option Value)} {st : List Value} {M : mw_Mem} {c sl : Nat} {sc : Nat × (Nat → Int32)} {rt : Option FieldType} {Qr : Option Value → mw_Mem → Prop} {n : Fin 4} (hq : q.1 = .iload_n n) (hc : mw_chkI cd.1 cd.2.1 pc q = true) (h : mw_app (mw_ins sc rt q pc ls st M c sl) (mw_WF G p l e R s m args below meth cc cd.2.2.1 CT ST Q) Qr) : mw_WF G p l e R s m args below meth cc cd.2.2.1 CT ST Q (pc, ls, st, M, c, sl) := by
  obtain ⟨hx, hb, hml, hr, hlk, hown, hnm, hts, hC⟩ := hB
  obtain ⟨i, len, ⟨r1, r2, r3⟩, ps, y, k⟩ := q
  dsimp only at hq
  subst hq
  unfold mw_chkI at hc
  simp only [Bool.and_eq_true, decide_eq_true_eq] at hc
  obtain ⟨hd, hc⟩ := hc
  have hd := mw_dec_eq hd
  try dsimp only at hd hc
  unfold mw_ins at h
  try dsimp only at h
  intro H locs cells slots lsR hR hS hL hcc hss
  dsimp only at hR hS hL hcc hss ⊢

  obtain ⟨rfl, rfl⟩ := hc
  split at h
  · rename_i x hv
    exact lv_iload_n hx hb hd rfl (mw_LR_at hL hv) (h H locs cells slots lsR hR hS hL hcc hss)
  · exact h.elim
theorem mw_i_iload (hB : mw_Bd G p s m args meth cc cd) {q : mw_I} {pc : Nat} {ls : List (Option Value)} {st : List Value} {M : mw_Mem} {c sl : Nat} {sc : Nat × (Nat → Int32)} {rt : Option FieldType} {Qr : Option Value → mw_Mem → Prop} {n : Nat} (hq : q.1 = .iload n) (hc : mw_chkI cd.1 cd.2.1 pc q = true) (h : mw_app (mw_ins sc rt q pc ls st M c sl) (mw_WF G p l e R s m args below meth cc cd.2.2.1 CT ST Q) Qr) : mw_WF G p l e R s m args below meth cc cd.2.2.1 CT ST Q (pc, ls, st, M, c, sl) := by
  obtain ⟨hx, hb, hml, hr, hlk, hown, hnm, hts, hC⟩ := hB
  obtain ⟨i, len, ⟨r1, r2, r3⟩, ps, y, k⟩ := q
  dsimp only at hq
  subst hq
  unfold mw_chkI at hc
  simp only [Bool.and_eq_true, decide_eq_true_eq] at hc
  obtain ⟨hd, hc⟩ := hc
  have hd := mw_dec_eq hd
  try dsimp only at hd hc
  unfold mw_ins at h
  try dsimp only at h
  intro H locs cells slots lsR hR hS hL hcc hss
  dsimp only at hR hS hL hcc hss ⊢

  obtain ⟨rfl, rfl⟩ := hc
  split at h
  · rename_i x hv
    exact lv_iload hx hb hd (mw_LR_at hL hv) (h H locs cells slots lsR hR hS hL hcc hss)
  · exact h.elim
theorem mw_i_aload_n (hB : mw_Bd G p s m args meth cc cd) {q : mw_I} {pc : Nat} {ls : List (Option Value)} {st : List Value} {M : mw_Mem} {c sl : Nat} {sc : Nat × (Nat → Int32)} {rt : Option FieldType} {Qr : Option Value → mw_Mem → Prop} {n : Fin 4} (hq : q.1 = .aload_n n) (hc : mw_chkI cd.1 cd.2.1 pc q = true) (h : mw_app (mw_ins sc rt q pc ls st M c sl) (mw_WF G p l e R s m args below meth cc cd.2.2.1 CT ST Q) Qr) : mw_WF G p l e R s m args below meth cc cd.2.2.1 CT ST Q (pc, ls, st, M, c, sl) := by
  obtain ⟨hx, hb, hml, hr, hlk, hown, hnm, hts, hC⟩ := hB
  obtain ⟨i, len, ⟨r1, r2, r3⟩, ps, y, k⟩ := q
  dsimp only at hq
  subst hq
  unfold mw_chkI at hc
  simp only [Bool.and_eq_true, decide_eq_true_eq] at hc
  obtain ⟨hd, hc⟩ := hc
  have hd := mw_dec_eq hd
  try dsimp only at hd hc
  unfold mw_ins at h
  try dsimp only at h
  intro H locs cells slots lsR hR hS hL hcc hss
  dsimp only at hR hS hL hcc hss ⊢

  obtain ⟨rfl, rfl⟩ := hc
  split at h
  · rename_i x hv
    exact lv_aload_n hx hb hd rfl (mw_LR_at hL hv) (h H locs cells slots lsR hR hS hL hcc hss)
  · exact h.elim
theorem mw_i_aload (hB : mw_Bd G p s m args meth cc cd) {q : mw_I} {pc : Nat} {ls : List (Option Value)} {st : List Value} {M : mw_Mem} {c sl : Nat} {sc : Nat × (Nat → Int32)} {rt : Option FieldType} {Qr : Option Value → mw_Mem → Prop} {n : Nat} (hq : q.1 = .aload n) (hc : mw_chkI cd.1 cd.2.1 pc q = true) (h : mw_app (mw_ins sc rt q pc ls st M c sl) (mw_WF G p l e R s m args below meth cc cd.2.2.1 CT ST Q) Qr) : mw_WF G p l e R s m args below meth cc cd.2.2.1 CT ST Q (pc, ls, st, M, c, sl) := by
  obtain ⟨hx, hb, hml, hr, hlk, hown, hnm, hts, hC⟩ := hB
  obtain ⟨i, len, ⟨r1, r2, r3⟩, ps, y, k⟩ := q
  dsimp only at hq
  subst hq
  unfold mw_chkI at hc
  simp only [Bool.and_eq_true, decide_eq_true_eq] at hc
  obtain ⟨hd, hc⟩ := hc
  have hd := mw_dec_eq hd
  try dsimp only at hd hc
  unfold mw_ins at h
  try dsimp only at h
  intro H locs cells slots lsR hR hS hL hcc hss
  dsimp only at hR hS hL hcc hss ⊢

  obtain ⟨rfl, rfl⟩ := hc
  split at h
  · rename_i x hv
    exact lv_aload hx hb hd (mw_LR_at hL hv) (h H locs cells slots lsR hR hS hL hcc hss)
  · exact h.elim
theorem mw_i_fload_n (hB : mw_Bd G p s m args meth cc cd) {q : mw_I} {pc : Nat} {ls : List (Option Value)} {st : List Value} {M : mw_Mem} {c sl : Nat} {sc : Nat × (Nat → Int32)} {rt : Option FieldType} {Qr : Option Value → mw_Mem → Prop} {n : Fin 4} (hq : q.1 = .fload_n n) (hc : mw_chkI cd.1 cd.2.1 pc q = true) (h : mw_app (mw_ins sc rt q pc ls st M c sl) (mw_WF G p l e R s m args below meth cc cd.2.2.1 CT ST Q) Qr) : mw_WF G p l e R s m args below meth cc cd.2.2.1 CT ST Q (pc, ls, st, M, c, sl) := by
  obtain ⟨hx, hb, hml, hr, hlk, hown, hnm, hts, hC⟩ := hB
  obtain ⟨i, len, ⟨r1, r2, r3⟩, ps, y, k⟩ := q
  dsimp only at hq
  subst hq
  unfold mw_chkI at hc
  simp only [Bool.and_eq_true, decide_eq_true_eq] at hc
  obtain ⟨hd, hc⟩ := hc
  have hd := mw_dec_eq hd
  try dsimp only at hd hc
  unfold mw_ins at h
  try dsimp only at h
  intro H locs cells slots lsR hR hS hL hcc hss
  dsimp only at hR hS hL hcc hss ⊢

  obtain ⟨rfl, rfl⟩ := hc
  split at h
  · rename_i x hv
    exact lv_fload_n hx hb hd rfl (mw_LR_at hL hv) (h H locs cells slots lsR hR hS hL hcc hss)
  · exact h.elim
theorem mw_i_fload (hB : mw_Bd G p s m args meth cc cd) {q : mw_I} {pc : Nat} {ls : List (Option Value)} {st : List Value} {M : mw_Mem} {c sl : Nat} {sc : Nat × (Nat → Int32)} {rt : Option FieldType} {Qr : Option Value → mw_Mem → Prop} {n : Nat} (hq : q.1 = .fload n) (hc : mw_chkI cd.1 cd.2.1 pc q = true) (h : mw_app (mw_ins sc rt q pc ls st M c sl) (mw_WF G p l e R s m args below meth cc cd.2.2.1 CT ST Q) Qr) : mw_WF G p l e R s m args below meth cc cd.2.2.1 CT ST Q (pc, ls, st, M, c, sl) := by
  obtain ⟨hx, hb, hml, hr, hlk, hown, hnm, hts, hC⟩ := hB
  obtain ⟨i, len, ⟨r1, r2, r3⟩, ps, y, k⟩ := q
  dsimp only at hq
  subst hq
  unfold mw_chkI at hc
  simp only [Bool.and_eq_true, decide_eq_true_eq] at hc
  obtain ⟨hd, hc⟩ := hc
  have hd := mw_dec_eq hd
  try dsimp only at hd hc
  unfold mw_ins at h
  try dsimp only at h
  intro H locs cells slots lsR hR hS hL hcc hss
  dsimp only at hR hS hL hcc hss ⊢

  obtain ⟨rfl, rfl⟩ := hc
  split at h
  · rename_i x hv
    exact lv_fload hx hb hd (mw_LR_at hL hv) (h H locs cells slots lsR hR hS hL hcc hss)
  · exact h.elim
theorem mw_i_dload_n (hB : mw_Bd G p s m args meth cc cd) {q : mw_I} {pc : Nat} {ls : List (Option Value)} {st : List Value} {M : mw_Mem} {c sl : Nat} {sc : Nat × (Nat → Int32)} {rt : Option FieldType} {Qr : Option Value → mw_Mem → Prop} {n : Fin 4} (hq : q.1 = .dload_n n) (hc : mw_chkI cd.1 cd.2.1 pc q = true) (h : mw_app (mw_ins sc rt q pc ls st M c sl) (mw_WF G p l e R s m args below meth cc cd.2.2.1 CT ST Q) Qr) : mw_WF G p l e R s m args below meth cc cd.2.2.1 CT ST Q (pc, ls, st, M, c, sl) := by
  obtain ⟨hx, hb, hml, hr, hlk, hown, hnm, hts, hC⟩ := hB
  obtain ⟨i, len, ⟨r1, r2, r3⟩, ps, y, k⟩ := q
  dsimp only at hq
  subst hq
  unfold mw_chkI at hc
  simp only [Bool.and_eq_true, decide_eq_true_eq] at hc
  obtain ⟨hd, hc⟩ := hc
  have hd := mw_dec_eq hd
  try dsimp only at hd hc
  unfold mw_ins at h
  try dsimp only at h
  intro H locs cells slots lsR hR hS hL hcc hss
  dsimp only at hR hS hL hcc hss ⊢

  obtain ⟨rfl, rfl⟩ := hc
  split at h
  · rename_i x hv
    exact lv_dload_n hx hb hd rfl (mw_LR_at hL hv) (h H locs cells slots lsR hR hS hL hcc hss)
  · exact h.elim
theorem mw_i_dload (hB : mw_Bd G p s m args meth cc cd) {q : mw_I} {pc : Nat} {ls : List (Option Value)} {st : List Value} {M : mw_Mem} {c sl : Nat} {sc : Nat × (Nat → Int32)} {rt : Option FieldType} {Qr : Option Value → mw_Mem → Prop} {n : Nat} (hq : q.1 = .dload n) (hc : mw_chkI cd.1 cd.2.1 pc q = true) (h : mw_app (mw_ins sc rt q pc ls st M c sl) (mw_WF G p l e R s m args below meth cc cd.2.2.1 CT ST Q) Qr) : mw_WF G p l e R s m args below meth cc cd.2.2.1 CT ST Q (pc, ls, st, M, c, sl) := by
  obtain ⟨hx, hb, hml, hr, hlk, hown, hnm, hts, hC⟩ := hB
  obtain ⟨i, len, ⟨r1, r2, r3⟩, ps, y, k⟩ := q
  dsimp only at hq
  subst hq
  unfold mw_chkI at hc
  simp only [Bool.and_eq_true, decide_eq_true_eq] at hc
  obtain ⟨hd, hc⟩ := hc
  have hd := mw_dec_eq hd
  try dsimp only at hd hc
  unfold mw_ins at h
  try dsimp only at h
  intro H locs cells slots lsR hR hS hL hcc hss
  dsimp only at hR hS hL hcc hss ⊢

  obtain ⟨rfl, rfl⟩ := hc
  split at h
  · rename_i x hv
    exact lv_dload hx hb hd (mw_LR_at hL hv) (h H locs cells slots lsR hR hS hL hcc hss)
  · exact h.elim
theorem mw_i_istore_n (hB : mw_Bd G p s m args meth cc cd) {q : mw_I} {pc : Nat} {ls : List (Option Value)} {st : List Value} {M : mw_Mem} {c sl : Nat} {sc : Nat × (Nat → Int32)} {rt : Option FieldType} {Qr : Option Value → mw_Mem → Prop} {n : Fin 4} (hq : q.1 = .istore_n n) (hc : mw_chkI cd.1 cd.2.1 pc q = true) (h : mw_app (mw_ins sc rt q pc ls st M c sl) (mw_WF G p l e R s m args below meth cc cd.2.2.1 CT ST Q) Qr) : mw_WF G p l e R s m args below meth cc cd.2.2.1 CT ST Q (pc, ls, st, M, c, sl) := by
  obtain ⟨hx, hb, hml, hr, hlk, hown, hnm, hts, hC⟩ := hB
  obtain ⟨i, len, ⟨r1, r2, r3⟩, ps, y, k⟩ := q
  dsimp only at hq
  subst hq
  unfold mw_chkI at hc
  simp only [Bool.and_eq_true, decide_eq_true_eq] at hc
  obtain ⟨hd, hc⟩ := hc
  have hd := mw_dec_eq hd
  try dsimp only at hd hc
  unfold mw_ins at h
  try dsimp only at h
  intro H locs cells slots lsR hR hS hL hcc hss
  dsimp only at hR hS hL hcc hss ⊢

  obtain ⟨rfl, rfl⟩ := hc
  split at h
  · rename_i x r
    split at h
    · rename_i ok
      exact lv_istore_n hx hb hd rfl hL.2 (by rw [← hL.1]; exact mw_ok1_lt ok) rfl (fun ls' hl' => h H locs cells slots ls' hR hS (mw_LR_st1 (v := .int x) hL.1 ok hl') hcc hss)
    · exact h.elim
  · exact h.elim
theorem mw_i_istore (hB : mw_Bd G p s m args meth cc cd) {q : mw_I} {pc : Nat} {ls : List (Option Value)} {st : List Value} {M : mw_Mem} {c sl : Nat} {sc : Nat × (Nat → Int32)} {rt : Option FieldType} {Qr : Option Value → mw_Mem → Prop} {n : Nat} (hq : q.1 = .istore n) (hc : mw_chkI cd.1 cd.2.1 pc q = true) (h : mw_app (mw_ins sc rt q pc ls st M c sl) (mw_WF G p l e R s m args below meth cc cd.2.2.1 CT ST Q) Qr) : mw_WF G p l e R s m args below meth cc cd.2.2.1 CT ST Q (pc, ls, st, M, c, sl) := by
  obtain ⟨hx, hb, hml, hr, hlk, hown, hnm, hts, hC⟩ := hB
  obtain ⟨i, len, ⟨r1, r2, r3⟩, ps, y, k⟩ := q
  dsimp only at hq
  subst hq
  unfold mw_chkI at hc
  simp only [Bool.and_eq_true, decide_eq_true_eq] at hc
  obtain ⟨hd, hc⟩ := hc
  have hd := mw_dec_eq hd
  try dsimp only at hd hc
  unfold mw_ins at h
  try dsimp only at h
  intro H locs cells slots lsR hR hS hL hcc hss
  dsimp only at hR hS hL hcc hss ⊢

  obtain ⟨rfl, rfl⟩ := hc
  split at h
  · rename_i x r
    split at h
    · rename_i ok
      exact lv_istore hx hb hd hL.2 (by rw [← hL.1]; exact mw_ok1_lt ok) rfl (fun ls' hl' => h H locs cells slots ls' hR hS (mw_LR_st1 (v := .int x) hL.1 ok hl') hcc hss)
    · exact h.elim
  · exact h.elim
theorem mw_i_astore_n (hB : mw_Bd G p s m args meth cc cd) {q : mw_I} {pc : Nat} {ls : List (Option Value)} {st : List Value} {M : mw_Mem} {c sl : Nat} {sc : Nat × (Nat → Int32)} {rt : Option FieldType} {Qr : Option Value → mw_Mem → Prop} {n : Fin 4} (hq : q.1 = .astore_n n) (hc : mw_chkI cd.1 cd.2.1 pc q = true) (h : mw_app (mw_ins sc rt q pc ls st M c sl) (mw_WF G p l e R s m args below meth cc cd.2.2.1 CT ST Q) Qr) : mw_WF G p l e R s m args below meth cc cd.2.2.1 CT ST Q (pc, ls, st, M, c, sl) := by
  obtain ⟨hx, hb, hml, hr, hlk, hown, hnm, hts, hC⟩ := hB
  obtain ⟨i, len, ⟨r1, r2, r3⟩, ps, y, k⟩ := q
  dsimp only at hq
  subst hq
  unfold mw_chkI at hc
  simp only [Bool.and_eq_true, decide_eq_true_eq] at hc
  obtain ⟨hd, hc⟩ := hc
  have hd := mw_dec_eq hd
  try dsimp only at hd hc
  unfold mw_ins at h
  try dsimp only at h
  intro H locs cells slots lsR hR hS hL hcc hss
  dsimp only at hR hS hL hcc hss ⊢

  obtain ⟨rfl, rfl⟩ := hc
  split at h
  · rename_i x r
    split at h
    · rename_i ok
      exact lv_astore_n hx hb hd rfl hL.2 (by rw [← hL.1]; exact mw_ok1_lt ok) rfl (fun ls' hl' => h H locs cells slots ls' hR hS (mw_LR_st1 (v := .ref x) hL.1 ok hl') hcc hss)
    · exact h.elim
  · exact h.elim
theorem mw_i_astore (hB : mw_Bd G p s m args meth cc cd) {q : mw_I} {pc : Nat} {ls : List (Option Value)} {st : List Value} {M : mw_Mem} {c sl : Nat} {sc : Nat × (Nat → Int32)} {rt : Option FieldType} {Qr : Option Value → mw_Mem → Prop} {n : Nat} (hq : q.1 = .astore n) (hc : mw_chkI cd.1 cd.2.1 pc q = true) (h : mw_app (mw_ins sc rt q pc ls st M c sl) (mw_WF G p l e R s m args below meth cc cd.2.2.1 CT ST Q) Qr) : mw_WF G p l e R s m args below meth cc cd.2.2.1 CT ST Q (pc, ls, st, M, c, sl) := by
  obtain ⟨hx, hb, hml, hr, hlk, hown, hnm, hts, hC⟩ := hB
  obtain ⟨i, len, ⟨r1, r2, r3⟩, ps, y, k⟩ := q
  dsimp only at hq
  subst hq
  unfold mw_chkI at hc
  simp only [Bool.and_eq_true, decide_eq_true_eq] at hc
  obtain ⟨hd, hc⟩ := hc
  have hd := mw_dec_eq hd
  try dsimp only at hd hc
  unfold mw_ins at h
  try dsimp only at h
  intro H locs cells slots lsR hR hS hL hcc hss
  dsimp only at hR hS hL hcc hss ⊢

  obtain ⟨rfl, rfl⟩ := hc
  split at h
  · rename_i x r
    split at h
    · rename_i ok
      exact lv_astore hx hb hd hL.2 (by rw [← hL.1]; exact mw_ok1_lt ok) rfl (fun ls' hl' => h H locs cells slots ls' hR hS (mw_LR_st1 (v := .ref x) hL.1 ok hl') hcc hss)
    · exact h.elim
  · exact h.elim
theorem mw_i_fstore_n (hB : mw_Bd G p s m args meth cc cd) {q : mw_I} {pc : Nat} {ls : List (Option Value)} {st : List Value} {M : mw_Mem} {c sl : Nat} {sc : Nat × (Nat → Int32)} {rt : Option FieldType} {Qr : Option Value → mw_Mem → Prop} {n : Fin 4} (hq : q.1 = .fstore_n n) (hc : mw_chkI cd.1 cd.2.1 pc q = true) (h : mw_app (mw_ins sc rt q pc ls st M c sl) (mw_WF G p l e R s m args below meth cc cd.2.2.1 CT ST Q) Qr) : mw_WF G p l e R s m args below meth cc cd.2.2.1 CT ST Q (pc, ls, st, M, c, sl) := by
  obtain ⟨hx, hb, hml, hr, hlk, hown, hnm, hts, hC⟩ := hB
  obtain ⟨i, len, ⟨r1, r2, r3⟩, ps, y, k⟩ := q
  dsimp only at hq
  subst hq
  unfold mw_chkI at hc
  simp only [Bool.and_eq_true, decide_eq_true_eq] at hc
  obtain ⟨hd, hc⟩ := hc
  have hd := mw_dec_eq hd
  try dsimp only at hd hc
  unfold mw_ins at h
  try dsimp only at h
  intro H locs cells slots lsR hR hS hL hcc hss
  dsimp only at hR hS hL hcc hss ⊢

  obtain ⟨rfl, rfl⟩ := hc
  split at h
  · rename_i x r
    split at h
    · rename_i ok
      exact lv_fstore_n hx hb hd rfl hL.2 (by rw [← hL.1]; exact mw_ok1_lt ok) rfl (fun ls' hl' => h H locs cells slots ls' hR hS (mw_LR_st1 (v := .float x) hL.1 ok hl') hcc hss)
    · exact h.elim
  · exact h.elim
theorem mw_i_fstore (hB : mw_Bd G p s m args meth cc cd) {q : mw_I} {pc : Nat} {ls : List (Option Value)} {st : List Value} {M : mw_Mem} {c sl : Nat} {sc : Nat × (Nat → Int32)} {rt : Option FieldType} {Qr : Option Value → mw_Mem → Prop} {n : Nat} (hq : q.1 = .fstore n) (hc : mw_chkI cd.1 cd.2.1 pc q = true) (h : mw_app (mw_ins sc rt q pc ls st M c sl) (mw_WF G p l e R s m args below meth cc cd.2.2.1 CT ST Q) Qr) : mw_WF G p l e R s m args below meth cc cd.2.2.1 CT ST Q (pc, ls, st, M, c, sl) := by
  obtain ⟨hx, hb, hml, hr, hlk, hown, hnm, hts, hC⟩ := hB
  obtain ⟨i, len, ⟨r1, r2, r3⟩, ps, y, k⟩ := q
  dsimp only at hq
  subst hq
  unfold mw_chkI at hc
  simp only [Bool.and_eq_true, decide_eq_true_eq] at hc
  obtain ⟨hd, hc⟩ := hc
  have hd := mw_dec_eq hd
  try dsimp only at hd hc
  unfold mw_ins at h
  try dsimp only at h
  intro H locs cells slots lsR hR hS hL hcc hss
  dsimp only at hR hS hL hcc hss ⊢

  obtain ⟨rfl, rfl⟩ := hc
  split at h
  · rename_i x r
    split at h
    · rename_i ok
      exact lv_fstore hx hb hd hL.2 (by rw [← hL.1]; exact mw_ok1_lt ok) rfl (fun ls' hl' => h H locs cells slots ls' hR hS (mw_LR_st1 (v := .float x) hL.1 ok hl') hcc hss)
    · exact h.elim
  · exact h.elim
theorem mw_i_dstore_n (hB : mw_Bd G p s m args meth cc cd) {q : mw_I} {pc : Nat} {ls : List (Option Value)} {st : List Value} {M : mw_Mem} {c sl : Nat} {sc : Nat × (Nat → Int32)} {rt : Option FieldType} {Qr : Option Value → mw_Mem → Prop} {n : Fin 4} (hq : q.1 = .dstore_n n) (hc : mw_chkI cd.1 cd.2.1 pc q = true) (h : mw_app (mw_ins sc rt q pc ls st M c sl) (mw_WF G p l e R s m args below meth cc cd.2.2.1 CT ST Q) Qr) : mw_WF G p l e R s m args below meth cc cd.2.2.1 CT ST Q (pc, ls, st, M, c, sl) := by
  obtain ⟨hx, hb, hml, hr, hlk, hown, hnm, hts, hC⟩ := hB
  obtain ⟨i, len, ⟨r1, r2, r3⟩, ps, y, k⟩ := q
  dsimp only at hq
  subst hq
  unfold mw_chkI at hc
  simp only [Bool.and_eq_true, decide_eq_true_eq] at hc
  obtain ⟨hd, hc⟩ := hc
  have hd := mw_dec_eq hd
  try dsimp only at hd hc
  unfold mw_ins at h
  try dsimp only at h
  intro H locs cells slots lsR hR hS hL hcc hss
  dsimp only at hR hS hL hcc hss ⊢

  obtain ⟨rfl, rfl⟩ := hc
  split at h
  · rename_i x r
    split at h
    · rename_i ok
      exact lv_dstore_n hx hb hd rfl hL.2 (by rw [← hL.1]; exact ok.2) rfl (fun ls' hl' => h H locs cells slots ls' hR hS (mw_LR_st2 (v := .double x) hL.1 ok.1 hl') hcc hss)
    · exact h.elim
  · exact h.elim
theorem mw_i_dstore (hB : mw_Bd G p s m args meth cc cd) {q : mw_I} {pc : Nat} {ls : List (Option Value)} {st : List Value} {M : mw_Mem} {c sl : Nat} {sc : Nat × (Nat → Int32)} {rt : Option FieldType} {Qr : Option Value → mw_Mem → Prop} {n : Nat} (hq : q.1 = .dstore n) (hc : mw_chkI cd.1 cd.2.1 pc q = true) (h : mw_app (mw_ins sc rt q pc ls st M c sl) (mw_WF G p l e R s m args below meth cc cd.2.2.1 CT ST Q) Qr) : mw_WF G p l e R s m args below meth cc cd.2.2.1 CT ST Q (pc, ls, st, M, c, sl) := by
  obtain ⟨hx, hb, hml, hr, hlk, hown, hnm, hts, hC⟩ := hB
  obtain ⟨i, len, ⟨r1, r2, r3⟩, ps, y, k⟩ := q
  dsimp only at hq
  subst hq
  unfold mw_chkI at hc
  simp only [Bool.and_eq_true, decide_eq_true_eq] at hc
  obtain ⟨hd, hc⟩ := hc
  have hd := mw_dec_eq hd
  try dsimp only at hd hc
  unfold mw_ins at h
  try dsimp only at h
  intro H locs cells slots lsR hR hS hL hcc hss
  dsimp only at hR hS hL hcc hss ⊢

  obtain ⟨rfl, rfl⟩ := hc
  split at h
  · rename_i x r
    split at h
    · rename_i ok
      exact lv_dstore hx hb hd hL.2 (by rw [← hL.1]; exact ok.2) rfl (fun ls' hl' => h H locs cells slots ls' hR hS (mw_LR_st2 (v := .double x) hL.1 ok.1 hl') hcc hss)
    · exact h.elim
  · exact h.elim
theorem mw_i_iinc (hB : mw_Bd G p s m args meth cc cd) {q : mw_I} {pc : Nat} {ls : List (Option Value)} {st : List Value} {M : mw_Mem} {c sl : Nat} {sc : Nat × (Nat → Int32)} {rt : Option FieldType} {Qr : Option Value → mw_Mem → Prop} {n : Nat} {z : Int} (hq : q.1 = .iinc n z) (hc : mw_chkI cd.1 cd.2.1 pc q = true) (h : mw_app (mw_ins sc rt q pc ls st M c sl) (mw_WF G p l e R s m args below meth cc cd.2.2.1 CT ST Q) Qr) : mw_WF G p l e R s m args below meth cc cd.2.2.1 CT ST Q (pc, ls, st, M, c, sl) := by
  obtain ⟨hx, hb, hml, hr, hlk, hown, hnm, hts, hC⟩ := hB
  obtain ⟨i, len, ⟨r1, r2, r3⟩, ps, y, k⟩ := q
  dsimp only at hq
  subst hq
  unfold mw_chkI at hc
  simp only [Bool.and_eq_true, decide_eq_true_eq] at hc
  obtain ⟨hd, hc⟩ := hc
  have hd := mw_dec_eq hd
  try dsimp only at hd hc
  unfold mw_ins at h
  try dsimp only at h
  intro H locs cells slots lsR hR hS hL hcc hss
  dsimp only at hR hS hL hcc hss ⊢

  obtain ⟨rfl, hz, rfl⟩ := hc
  split at h
  · rename_i x hv
    split at h
    · rename_i ok
      have hv2 : ls[n]? = some (some (Value.int x)) := by
        unfold mw_ld at hv
        split at hv
        · rename_i w e9
          cases hv
          exact e9
        · cases hv
      have hm : (n, Value.int x) ∈ mw_toL G 0 ls := (mw_toL_in G ls 0 _).mpr ⟨n, .int x, hv2, by simp [mw_tr]⟩
      obtain ⟨kk, hk⟩ := List.getElem?_of_mem hm
      exact lv_iinc hx hb hd hL.2 hk (by rw [hz]) (by rw [← hL.1]; exact mw_ok1_lt ok) rfl (fun ls' hl' => h H locs cells slots ls' hR hS (mw_LR_st1 (v := .int (x + k)) hL.1 ok hl') hcc hss)
    · exact h.elim
  · exact h.elim
theorem mw_i_iadd (hB : mw_Bd G p s m args meth cc cd) {q : mw_I} {pc : Nat} {ls : List (Option Value)} {st : List Value} {M : mw_Mem} {c sl : Nat} {sc : Nat × (Nat → Int32)} {rt : Option FieldType} {Qr : Option Value → mw_Mem → Prop}  (hq : q.1 = .iadd) (hc : mw_chkI cd.1 cd.2.1 pc q = true) (h : mw_app (mw_ins sc rt q pc ls st M c sl) (mw_WF G p l e R s m args below meth cc cd.2.2.1 CT ST Q) Qr) : mw_WF G p l e R s m args below meth cc cd.2.2.1 CT ST Q (pc, ls, st, M, c, sl) := by
  obtain ⟨hx, hb, hml, hr, hlk, hown, hnm, hts, hC⟩ := hB
  obtain ⟨i, len, ⟨r1, r2, r3⟩, ps, y, k⟩ := q
  dsimp only at hq
  subst hq
  unfold mw_chkI at hc
  simp only [Bool.and_eq_true, decide_eq_true_eq] at hc
  obtain ⟨hd, hc⟩ := hc
  have hd := mw_dec_eq hd
  try dsimp only at hd hc
  unfold mw_ins at h
  try dsimp only at h
  intro H locs cells slots lsR hR hS hL hcc hss
  dsimp only at hR hS hL hcc hss ⊢

  obtain rfl := hc
  unfold mw_two at h
  split at h
  · exact lv_iadd hx hb hd (h H locs cells slots lsR hR hS hL hcc hss)
  · exact h.elim
theorem mw_i_isub (hB : mw_Bd G p s m args meth cc cd) {q : mw_I} {pc : Nat} {ls : List (Option Value)} {st : List Value} {M : mw_Mem} {c sl : Nat} {sc : Nat × (Nat → Int32)} {rt : Option FieldType} {Qr : Option Value → mw_Mem → Prop}  (hq : q.1 = .isub) (hc : mw_chkI cd.1 cd.2.1 pc q = true) (h : mw_app (mw_ins sc rt q pc ls st M c sl) (mw_WF G p l e R s m args below meth cc cd.2.2.1 CT ST Q) Qr) : mw_WF G p l e R s m args below meth cc cd.2.2.1 CT ST Q (pc, ls, st, M, c, sl) := by
  obtain ⟨hx, hb, hml, hr, hlk, hown, hnm, hts, hC⟩ := hB
  obtain ⟨i, len, ⟨r1, r2, r3⟩, ps, y, k⟩ := q
  dsimp only at hq
  subst hq
  unfold mw_chkI at hc
  simp only [Bool.and_eq_true, decide_eq_true_eq] at hc
  obtain ⟨hd, hc⟩ := hc
  have hd := mw_dec_eq hd
  try dsimp only at hd hc
  unfold mw_ins at h
  try dsimp only at h
  intro H locs cells slots lsR hR hS hL hcc hss
  dsimp only at hR hS hL hcc hss ⊢

  obtain rfl := hc
  unfold mw_two at h
  split at h
  · exact lv_isub hx hb hd (h H locs cells slots lsR hR hS hL hcc hss)
  · exact h.elim
theorem mw_i_imul (hB : mw_Bd G p s m args meth cc cd) {q : mw_I} {pc : Nat} {ls : List (Option Value)} {st : List Value} {M : mw_Mem} {c sl : Nat} {sc : Nat × (Nat → Int32)} {rt : Option FieldType} {Qr : Option Value → mw_Mem → Prop}  (hq : q.1 = .imul) (hc : mw_chkI cd.1 cd.2.1 pc q = true) (h : mw_app (mw_ins sc rt q pc ls st M c sl) (mw_WF G p l e R s m args below meth cc cd.2.2.1 CT ST Q) Qr) : mw_WF G p l e R s m args below meth cc cd.2.2.1 CT ST Q (pc, ls, st, M, c, sl) := by
  obtain ⟨hx, hb, hml, hr, hlk, hown, hnm, hts, hC⟩ := hB
  obtain ⟨i, len, ⟨r1, r2, r3⟩, ps, y, k⟩ := q
  dsimp only at hq
  subst hq
  unfold mw_chkI at hc
  simp only [Bool.and_eq_true, decide_eq_true_eq] at hc
  obtain ⟨hd, hc⟩ := hc
  have hd := mw_dec_eq hd
  try dsimp only at hd hc
  unfold mw_ins at h
  try dsimp only at h
  intro H locs cells slots lsR hR hS hL hcc hss
  dsimp only at hR hS hL hcc hss ⊢

  obtain rfl := hc
  unfold mw_two at h
  split at h
  · exact lv_imul hx hb hd (h H locs cells slots lsR hR hS hL hcc hss)
  · exact h.elim
theorem mw_i_iand (hB : mw_Bd G p s m args meth cc cd) {q : mw_I} {pc : Nat} {ls : List (Option Value)} {st : List Value} {M : mw_Mem} {c sl : Nat} {sc : Nat × (Nat → Int32)} {rt : Option FieldType} {Qr : Option Value → mw_Mem → Prop}  (hq : q.1 = .iand) (hc : mw_chkI cd.1 cd.2.1 pc q = true) (h : mw_app (mw_ins sc rt q pc ls st M c sl) (mw_WF G p l e R s m args below meth cc cd.2.2.1 CT ST Q) Qr) : mw_WF G p l e R s m args below meth cc cd.2.2.1 CT ST Q (pc, ls, st, M, c, sl) := by
  obtain ⟨hx, hb, hml, hr, hlk, hown, hnm, hts, hC⟩ := hB
  obtain ⟨i, len, ⟨r1, r2, r3⟩, ps, y, k⟩ := q
  dsimp only at hq
  subst hq
  unfold mw_chkI at hc
  simp only [Bool.and_eq_true, decide_eq_true_eq] at hc
  obtain ⟨hd, hc⟩ := hc
  have hd := mw_dec_eq hd
  try dsimp only at hd hc
  unfold mw_ins at h
  try dsimp only at h
  intro H locs cells slots lsR hR hS hL hcc hss
  dsimp only at hR hS hL hcc hss ⊢

  obtain rfl := hc
  unfold mw_two at h
  split at h
  · exact lv_iand hx hb hd (h H locs cells slots lsR hR hS hL hcc hss)
  · exact h.elim
theorem mw_i_ior (hB : mw_Bd G p s m args meth cc cd) {q : mw_I} {pc : Nat} {ls : List (Option Value)} {st : List Value} {M : mw_Mem} {c sl : Nat} {sc : Nat × (Nat → Int32)} {rt : Option FieldType} {Qr : Option Value → mw_Mem → Prop}  (hq : q.1 = .ior) (hc : mw_chkI cd.1 cd.2.1 pc q = true) (h : mw_app (mw_ins sc rt q pc ls st M c sl) (mw_WF G p l e R s m args below meth cc cd.2.2.1 CT ST Q) Qr) : mw_WF G p l e R s m args below meth cc cd.2.2.1 CT ST Q (pc, ls, st, M, c, sl) := by
  obtain ⟨hx, hb, hml, hr, hlk, hown, hnm, hts, hC⟩ := hB
  obtain ⟨i, len, ⟨r1, r2, r3⟩, ps, y, k⟩ := q
  dsimp only at hq
  subst hq
  unfold mw_chkI at hc
  simp only [Bool.and_eq_true, decide_eq_true_eq] at hc
  obtain ⟨hd, hc⟩ := hc
  have hd := mw_dec_eq hd
  try dsimp only at hd hc
  unfold mw_ins at h
  try dsimp only at h
  intro H locs cells slots lsR hR hS hL hcc hss
  dsimp only at hR hS hL hcc hss ⊢

  obtain rfl := hc
  unfold mw_two at h
  split at h
  · exact lv_ior hx hb hd (h H locs cells slots lsR hR hS hL hcc hss)
  · exact h.elim
theorem mw_i_ixor (hB : mw_Bd G p s m args meth cc cd) {q : mw_I} {pc : Nat} {ls : List (Option Value)} {st : List Value} {M : mw_Mem} {c sl : Nat} {sc : Nat × (Nat → Int32)} {rt : Option FieldType} {Qr : Option Value → mw_Mem → Prop}  (hq : q.1 = .ixor) (hc : mw_chkI cd.1 cd.2.1 pc q = true) (h : mw_app (mw_ins sc rt q pc ls st M c sl) (mw_WF G p l e R s m args below meth cc cd.2.2.1 CT ST Q) Qr) : mw_WF G p l e R s m args below meth cc cd.2.2.1 CT ST Q (pc, ls, st, M, c, sl) := by
  obtain ⟨hx, hb, hml, hr, hlk, hown, hnm, hts, hC⟩ := hB
  obtain ⟨i, len, ⟨r1, r2, r3⟩, ps, y, k⟩ := q
  dsimp only at hq
  subst hq
  unfold mw_chkI at hc
  simp only [Bool.and_eq_true, decide_eq_true_eq] at hc
  obtain ⟨hd, hc⟩ := hc
  have hd := mw_dec_eq hd
  try dsimp only at hd hc
  unfold mw_ins at h
  try dsimp only at h
  intro H locs cells slots lsR hR hS hL hcc hss
  dsimp only at hR hS hL hcc hss ⊢

  obtain rfl := hc
  unfold mw_two at h
  split at h
  · exact lv_ixor hx hb hd (h H locs cells slots lsR hR hS hL hcc hss)
  · exact h.elim
theorem mw_i_ishl (hB : mw_Bd G p s m args meth cc cd) {q : mw_I} {pc : Nat} {ls : List (Option Value)} {st : List Value} {M : mw_Mem} {c sl : Nat} {sc : Nat × (Nat → Int32)} {rt : Option FieldType} {Qr : Option Value → mw_Mem → Prop}  (hq : q.1 = .ishl) (hc : mw_chkI cd.1 cd.2.1 pc q = true) (h : mw_app (mw_ins sc rt q pc ls st M c sl) (mw_WF G p l e R s m args below meth cc cd.2.2.1 CT ST Q) Qr) : mw_WF G p l e R s m args below meth cc cd.2.2.1 CT ST Q (pc, ls, st, M, c, sl) := by
  obtain ⟨hx, hb, hml, hr, hlk, hown, hnm, hts, hC⟩ := hB
  obtain ⟨i, len, ⟨r1, r2, r3⟩, ps, y, k⟩ := q
  dsimp only at hq
  subst hq
  unfold mw_chkI at hc
  simp only [Bool.and_eq_true, decide_eq_true_eq] at hc
  obtain ⟨hd, hc⟩ := hc
  have hd := mw_dec_eq hd
  try dsimp only at hd hc
  unfold mw_ins at h
  try dsimp only at h
  intro H locs cells slots lsR hR hS hL hcc hss
  dsimp only at hR hS hL hcc hss ⊢

  obtain rfl := hc
  unfold mw_two at h
  split at h
  · exact lv_ishl hx hb hd (h H locs cells slots lsR hR hS hL hcc hss)
  · exact h.elim
theorem mw_i_ishr (hB : mw_Bd G p s m args meth cc cd) {q : mw_I} {pc : Nat} {ls : List (Option Value)} {st : List Value} {M : mw_Mem} {c sl : Nat} {sc : Nat × (Nat → Int32)} {rt : Option FieldType} {Qr : Option Value → mw_Mem → Prop}  (hq : q.1 = .ishr) (hc : mw_chkI cd.1 cd.2.1 pc q = true) (h : mw_app (mw_ins sc rt q pc ls st M c sl) (mw_WF G p l e R s m args below meth cc cd.2.2.1 CT ST Q) Qr) : mw_WF G p l e R s m args below meth cc cd.2.2.1 CT ST Q (pc, ls, st, M, c, sl) := by
  obtain ⟨hx, hb, hml, hr, hlk, hown, hnm, hts, hC⟩ := hB
  obtain ⟨i, len, ⟨r1, r2, r3⟩, ps, y, k⟩ := q
  dsimp only at hq
  subst hq
  unfold mw_chkI at hc
  simp only [Bool.and_eq_true, decide_eq_true_eq] at hc
  obtain ⟨hd, hc⟩ := hc
  have hd := mw_dec_eq hd
  try dsimp only at hd hc
  unfold mw_ins at h
  try dsimp only at h
  intro H locs cells slots lsR hR hS hL hcc hss
  dsimp only at hR hS hL hcc hss ⊢

  obtain rfl := hc
  unfold mw_two at h
  split at h
  · exact lv_ishr hx hb hd (h H locs cells slots lsR hR hS hL hcc hss)
  · exact h.elim
theorem mw_i_ladd (hB : mw_Bd G p s m args meth cc cd) {q : mw_I} {pc : Nat} {ls : List (Option Value)} {st : List Value} {M : mw_Mem} {c sl : Nat} {sc : Nat × (Nat → Int32)} {rt : Option FieldType} {Qr : Option Value → mw_Mem → Prop}  (hq : q.1 = .ladd) (hc : mw_chkI cd.1 cd.2.1 pc q = true) (h : mw_app (mw_ins sc rt q pc ls st M c sl) (mw_WF G p l e R s m args below meth cc cd.2.2.1 CT ST Q) Qr) : mw_WF G p l e R s m args below meth cc cd.2.2.1 CT ST Q (pc, ls, st, M, c, sl) := by
  obtain ⟨hx, hb, hml, hr, hlk, hown, hnm, hts, hC⟩ := hB
  obtain ⟨i, len, ⟨r1, r2, r3⟩, ps, y, k⟩ := q
  dsimp only at hq
  subst hq
  unfold mw_chkI at hc
  simp only [Bool.and_eq_true, decide_eq_true_eq] at hc
  obtain ⟨hd, hc⟩ := hc
  have hd := mw_dec_eq hd
  try dsimp only at hd hc
  unfold mw_ins at h
  try dsimp only at h
  intro H locs cells slots lsR hR hS hL hcc hss
  dsimp only at hR hS hL hcc hss ⊢

  obtain rfl := hc
  unfold mw_twol at h
  split at h
  · exact lv_ladd hx hb hd (h H locs cells slots lsR hR hS hL hcc hss)
  · exact h.elim
theorem mw_i_lsub (hB : mw_Bd G p s m args meth cc cd) {q : mw_I} {pc : Nat} {ls : List (Option Value)} {st : List Value} {M : mw_Mem} {c sl : Nat} {sc : Nat × (Nat → Int32)} {rt : Option FieldType} {Qr : Option Value → mw_Mem → Prop}  (hq : q.1 = .lsub) (hc : mw_chkI cd.1 cd.2.1 pc q = true) (h : mw_app (mw_ins sc rt q pc ls st M c sl) (mw_WF G p l e R s m args below meth cc cd.2.2.1 CT ST Q) Qr) : mw_WF G p l e R s m args below meth cc cd.2.2.1 CT ST Q (pc, ls, st, M, c, sl) := by
  obtain ⟨hx, hb, hml, hr, hlk, hown, hnm, hts, hC⟩ := hB
  obtain ⟨i, len, ⟨r1, r2, r3⟩, ps, y, k⟩ := q
  dsimp only at hq
  subst hq
  unfold mw_chkI at hc
  simp only [Bool.and_eq_true, decide_eq_true_eq] at hc
  obtain ⟨hd, hc⟩ := hc
  have hd := mw_dec_eq hd
  try dsimp only at hd hc
  unfold mw_ins at h
  try dsimp only at h
  intro H locs cells slots lsR hR hS hL hcc hss
  dsimp only at hR hS hL hcc hss ⊢

  obtain rfl := hc
  unfold mw_twol at h
  split at h
  · exact lv_lsub hx hb hd (h H locs cells slots lsR hR hS hL hcc hss)
  · exact h.elim
theorem mw_i_lmul (hB : mw_Bd G p s m args meth cc cd) {q : mw_I} {pc : Nat} {ls : List (Option Value)} {st : List Value} {M : mw_Mem} {c sl : Nat} {sc : Nat × (Nat → Int32)} {rt : Option FieldType} {Qr : Option Value → mw_Mem → Prop}  (hq : q.1 = .lmul) (hc : mw_chkI cd.1 cd.2.1 pc q = true) (h : mw_app (mw_ins sc rt q pc ls st M c sl) (mw_WF G p l e R s m args below meth cc cd.2.2.1 CT ST Q) Qr) : mw_WF G p l e R s m args below meth cc cd.2.2.1 CT ST Q (pc, ls, st, M, c, sl) := by
  obtain ⟨hx, hb, hml, hr, hlk, hown, hnm, hts, hC⟩ := hB
  obtain ⟨i, len, ⟨r1, r2, r3⟩, ps, y, k⟩ := q
  dsimp only at hq
  subst hq
  unfold mw_chkI at hc
  simp only [Bool.and_eq_true, decide_eq_true_eq] at hc
  obtain ⟨hd, hc⟩ := hc
  have hd := mw_dec_eq hd
  try dsimp only at hd hc
  unfold mw_ins at h
  try dsimp only at h
  intro H locs cells slots lsR hR hS hL hcc hss
  dsimp only at hR hS hL hcc hss ⊢

  obtain rfl := hc
  unfold mw_twol at h
  split at h
  · exact lv_lmul hx hb hd (h H locs cells slots lsR hR hS hL hcc hss)
  · exact h.elim
theorem mw_i_idiv (hB : mw_Bd G p s m args meth cc cd) {q : mw_I} {pc : Nat} {ls : List (Option Value)} {st : List Value} {M : mw_Mem} {c sl : Nat} {sc : Nat × (Nat → Int32)} {rt : Option FieldType} {Qr : Option Value → mw_Mem → Prop}  (hq : q.1 = .idiv) (hc : mw_chkI cd.1 cd.2.1 pc q = true) (h : mw_app (mw_ins sc rt q pc ls st M c sl) (mw_WF G p l e R s m args below meth cc cd.2.2.1 CT ST Q) Qr) : mw_WF G p l e R s m args below meth cc cd.2.2.1 CT ST Q (pc, ls, st, M, c, sl) := by
  obtain ⟨hx, hb, hml, hr, hlk, hown, hnm, hts, hC⟩ := hB
  obtain ⟨i, len, ⟨r1, r2, r3⟩, ps, y, k⟩ := q
  dsimp only at hq
  subst hq
  unfold mw_chkI at hc
  simp only [Bool.and_eq_true, decide_eq_true_eq] at hc
  obtain ⟨hd, hc⟩ := hc
  have hd := mw_dec_eq hd
  try dsimp only at hd hc
  unfold mw_ins at h
  try dsimp only at h
  intro H locs cells slots lsR hR hS hL hcc hss
  dsimp only at hR hS hL hcc hss ⊢

  obtain rfl := hc
  split at h
  · exact lv_idiv hx hb hd h.1 (h.2 H locs cells slots lsR hR hS hL hcc hss)
  · exact h.elim
theorem mw_i_irem (hB : mw_Bd G p s m args meth cc cd) {q : mw_I} {pc : Nat} {ls : List (Option Value)} {st : List Value} {M : mw_Mem} {c sl : Nat} {sc : Nat × (Nat → Int32)} {rt : Option FieldType} {Qr : Option Value → mw_Mem → Prop}  (hq : q.1 = .irem) (hc : mw_chkI cd.1 cd.2.1 pc q = true) (h : mw_app (mw_ins sc rt q pc ls st M c sl) (mw_WF G p l e R s m args below meth cc cd.2.2.1 CT ST Q) Qr) : mw_WF G p l e R s m args below meth cc cd.2.2.1 CT ST Q (pc, ls, st, M, c, sl) := by
  obtain ⟨hx, hb, hml, hr, hlk, hown, hnm, hts, hC⟩ := hB
  obtain ⟨i, len, ⟨r1, r2, r3⟩, ps, y, k⟩ := q
  dsimp only at hq
  subst hq
  unfold mw_chkI at hc
  simp only [Bool.and_eq_true, decide_eq_true_eq] at hc
  obtain ⟨hd, hc⟩ := hc
  have hd := mw_dec_eq hd
  try dsimp only at hd hc
  unfold mw_ins at h
  try dsimp only at h
  intro H locs cells slots lsR hR hS hL hcc hss
  dsimp only at hR hS hL hcc hss ⊢

  obtain rfl := hc
  split at h
  · exact lv_irem hx hb hd h.1 (h.2 H locs cells slots lsR hR hS hL hcc hss)
  · exact h.elim
theorem mw_i_f2d (hB : mw_Bd G p s m args meth cc cd) {q : mw_I} {pc : Nat} {ls : List (Option Value)} {st : List Value} {M : mw_Mem} {c sl : Nat} {sc : Nat × (Nat → Int32)} {rt : Option FieldType} {Qr : Option Value → mw_Mem → Prop}  (hq : q.1 = .f2d) (hc : mw_chkI cd.1 cd.2.1 pc q = true) (h : mw_app (mw_ins sc rt q pc ls st M c sl) (mw_WF G p l e R s m args below meth cc cd.2.2.1 CT ST Q) Qr) : mw_WF G p l e R s m args below meth cc cd.2.2.1 CT ST Q (pc, ls, st, M, c, sl) := by
  obtain ⟨hx, hb, hml, hr, hlk, hown, hnm, hts, hC⟩ := hB
  obtain ⟨i, len, ⟨r1, r2, r3⟩, ps, y, k⟩ := q
  dsimp only at hq
  subst hq
  unfold mw_chkI at hc
  simp only [Bool.and_eq_true, decide_eq_true_eq] at hc
  obtain ⟨hd, hc⟩ := hc
  have hd := mw_dec_eq hd
  try dsimp only at hd hc
  unfold mw_ins at h
  try dsimp only at h
  intro H locs cells slots lsR hR hS hL hcc hss
  dsimp only at hR hS hL hcc hss ⊢

  obtain rfl := hc
  split at h
  · exact lv_f2d hx hb hd h.1 (h.2 H locs cells slots lsR hR hS hL hcc hss)
  · exact h.elim
theorem mw_i_ddiv (hB : mw_Bd G p s m args meth cc cd) {q : mw_I} {pc : Nat} {ls : List (Option Value)} {st : List Value} {M : mw_Mem} {c sl : Nat} {sc : Nat × (Nat → Int32)} {rt : Option FieldType} {Qr : Option Value → mw_Mem → Prop}  (hq : q.1 = .ddiv) (hc : mw_chkI cd.1 cd.2.1 pc q = true) (h : mw_app (mw_ins sc rt q pc ls st M c sl) (mw_WF G p l e R s m args below meth cc cd.2.2.1 CT ST Q) Qr) : mw_WF G p l e R s m args below meth cc cd.2.2.1 CT ST Q (pc, ls, st, M, c, sl) := by
  obtain ⟨hx, hb, hml, hr, hlk, hown, hnm, hts, hC⟩ := hB
  obtain ⟨i, len, ⟨r1, r2, r3⟩, ps, y, k⟩ := q
  dsimp only at hq
  subst hq
  unfold mw_chkI at hc
  simp only [Bool.and_eq_true, decide_eq_true_eq] at hc
  obtain ⟨hd, hc⟩ := hc
  have hd := mw_dec_eq hd
  try dsimp only at hd hc
  unfold mw_ins at h
  try dsimp only at h
  intro H locs cells slots lsR hR hS hL hcc hss
  dsimp only at hR hS hL hcc hss ⊢

  obtain rfl := hc
  split at h
  · exact lv_ddiv hx hb hd h.1 (h.2 H locs cells slots lsR hR hS hL hcc hss)
  · exact h.elim
theorem mw_i_fdiv (hB : mw_Bd G p s m args meth cc cd) {q : mw_I} {pc : Nat} {ls : List (Option Value)} {st : List Value} {M : mw_Mem} {c sl : Nat} {sc : Nat × (Nat → Int32)} {rt : Option FieldType} {Qr : Option Value → mw_Mem → Prop}  (hq : q.1 = .fdiv) (hc : mw_chkI cd.1 cd.2.1 pc q = true) (h : mw_app (mw_ins sc rt q pc ls st M c sl) (mw_WF G p l e R s m args below meth cc cd.2.2.1 CT ST Q) Qr) : mw_WF G p l e R s m args below meth cc cd.2.2.1 CT ST Q (pc, ls, st, M, c, sl) := by
  obtain ⟨hx, hb, hml, hr, hlk, hown, hnm, hts, hC⟩ := hB
  obtain ⟨i, len, ⟨r1, r2, r3⟩, ps, y, k⟩ := q
  dsimp only at hq
  subst hq
  unfold mw_chkI at hc
  simp only [Bool.and_eq_true, decide_eq_true_eq] at hc
  obtain ⟨hd, hc⟩ := hc
  have hd := mw_dec_eq hd
  try dsimp only at hd hc
  unfold mw_ins at h
  try dsimp only at h
  intro H locs cells slots lsR hR hS hL hcc hss
  dsimp only at hR hS hL hcc hss ⊢

  obtain rfl := hc
  split at h
  · exact lv_fdiv hx hb hd h.1 (h.2 H locs cells slots lsR hR hS hL hcc hss)
  · exact h.elim
theorem mw_i_ineg (hB : mw_Bd G p s m args meth cc cd) {q : mw_I} {pc : Nat} {ls : List (Option Value)} {st : List Value} {M : mw_Mem} {c sl : Nat} {sc : Nat × (Nat → Int32)} {rt : Option FieldType} {Qr : Option Value → mw_Mem → Prop}  (hq : q.1 = .ineg) (hc : mw_chkI cd.1 cd.2.1 pc q = true) (h : mw_app (mw_ins sc rt q pc ls st M c sl) (mw_WF G p l e R s m args below meth cc cd.2.2.1 CT ST Q) Qr) : mw_WF G p l e R s m args below meth cc cd.2.2.1 CT ST Q (pc, ls, st, M, c, sl) := by
  obtain ⟨hx, hb, hml, hr, hlk, hown, hnm, hts, hC⟩ := hB
  obtain ⟨i, len, ⟨r1, r2, r3⟩, ps, y, k⟩ := q
  dsimp only at hq
  subst hq
  unfold mw_chkI at hc
  simp only [Bool.and_eq_true, decide_eq_true_eq] at hc
  obtain ⟨hd, hc⟩ := hc
  have hd := mw_dec_eq hd
  try dsimp only at hd hc
  unfold mw_ins at h
  try dsimp only at h
  intro H locs cells slots lsR hR hS hL hcc hss
  dsimp only at hR hS hL hcc hss ⊢

  obtain rfl := hc
  split at h
  · exact lv_ineg hx hb hd (h H locs cells slots lsR hR hS hL hcc hss)
  · exact h.elim
theorem mw_i_i2l (hB : mw_Bd G p s m args meth cc cd) {q : mw_I} {pc : Nat} {ls : List (Option Value)} {st : List Value} {M : mw_Mem} {c sl : Nat} {sc : Nat × (Nat → Int32)} {rt : Option FieldType} {Qr : Option Value → mw_Mem → Prop}  (hq : q.1 = .i2l) (hc : mw_chkI cd.1 cd.2.1 pc q = true) (h : mw_app (mw_ins sc rt q pc ls st M c sl) (mw_WF G p l e R s m args below meth cc cd.2.2.1 CT ST Q) Qr) : mw_WF G p l e R s m args below meth cc cd.2.2.1 CT ST Q (pc, ls, st, M, c, sl) := by
  obtain ⟨hx, hb, hml, hr, hlk, hown, hnm, hts, hC⟩ := hB
  obtain ⟨i, len, ⟨r1, r2, r3⟩, ps, y, k⟩ := q
  dsimp only at hq
  subst hq
  unfold mw_chkI at hc
  simp only [Bool.and_eq_true, decide_eq_true_eq] at hc
  obtain ⟨hd, hc⟩ := hc
  have hd := mw_dec_eq hd
  try dsimp only at hd hc
  unfold mw_ins at h
  try dsimp only at h
  intro H locs cells slots lsR hR hS hL hcc hss
  dsimp only at hR hS hL hcc hss ⊢

  obtain rfl := hc
  split at h
  · exact lv_i2l hx hb hd rfl (h H locs cells slots lsR hR hS hL hcc hss)
  · exact h.elim
theorem mw_i_i2c (hB : mw_Bd G p s m args meth cc cd) {q : mw_I} {pc : Nat} {ls : List (Option Value)} {st : List Value} {M : mw_Mem} {c sl : Nat} {sc : Nat × (Nat → Int32)} {rt : Option FieldType} {Qr : Option Value → mw_Mem → Prop}  (hq : q.1 = .i2c) (hc : mw_chkI cd.1 cd.2.1 pc q = true) (h : mw_app (mw_ins sc rt q pc ls st M c sl) (mw_WF G p l e R s m args below meth cc cd.2.2.1 CT ST Q) Qr) : mw_WF G p l e R s m args below meth cc cd.2.2.1 CT ST Q (pc, ls, st, M, c, sl) := by
  obtain ⟨hx, hb, hml, hr, hlk, hown, hnm, hts, hC⟩ := hB
  obtain ⟨i, len, ⟨r1, r2, r3⟩, ps, y, k⟩ := q
  dsimp only at hq
  subst hq
  unfold mw_chkI at hc
  simp only [Bool.and_eq_true, decide_eq_true_eq] at hc
  obtain ⟨hd, hc⟩ := hc
  have hd := mw_dec_eq hd
  try dsimp only at hd hc
  unfold mw_ins at h
  try dsimp only at h
  intro H locs cells slots lsR hR hS hL hcc hss
  dsimp only at hR hS hL hcc hss ⊢

  obtain rfl := hc
  split at h
  · exact lv_i2c hx hb hd rfl (h H locs cells slots lsR hR hS hL hcc hss)
  · exact h.elim
theorem mw_i_i2b (hB : mw_Bd G p s m args meth cc cd) {q : mw_I} {pc : Nat} {ls : List (Option Value)} {st : List Value} {M : mw_Mem} {c sl : Nat} {sc : Nat × (Nat → Int32)} {rt : Option FieldType} {Qr : Option Value → mw_Mem → Prop}  (hq : q.1 = .i2b) (hc : mw_chkI cd.1 cd.2.1 pc q = true) (h : mw_app (mw_ins sc rt q pc ls st M c sl) (mw_WF G p l e R s m args below meth cc cd.2.2.1 CT ST Q) Qr) : mw_WF G p l e R s m args below meth cc cd.2.2.1 CT ST Q (pc, ls, st, M, c, sl) := by
  obtain ⟨hx, hb, hml, hr, hlk, hown, hnm, hts, hC⟩ := hB
  obtain ⟨i, len, ⟨r1, r2, r3⟩, ps, y, k⟩ := q
  dsimp only at hq
  subst hq
  unfold mw_chkI at hc
  simp only [Bool.and_eq_true, decide_eq_true_eq] at hc
  obtain ⟨hd, hc⟩ := hc
  have hd := mw_dec_eq hd
  try dsimp only at hd hc
  unfold mw_ins at h
  try dsimp only at h
  intro H locs cells slots lsR hR hS hL hcc hss
  dsimp only at hR hS hL hcc hss ⊢

  obtain rfl := hc
  split at h
  · exact lv_i2b hx hb hd rfl (h H locs cells slots lsR hR hS hL hcc hss)
  · exact h.elim
theorem mw_i_i2d (hB : mw_Bd G p s m args meth cc cd) {q : mw_I} {pc : Nat} {ls : List (Option Value)} {st : List Value} {M : mw_Mem} {c sl : Nat} {sc : Nat × (Nat → Int32)} {rt : Option FieldType} {Qr : Option Value → mw_Mem → Prop}  (hq : q.1 = .i2d) (hc : mw_chkI cd.1 cd.2.1 pc q = true) (h : mw_app (mw_ins sc rt q pc ls st M c sl) (mw_WF G p l e R s m args below meth cc cd.2.2.1 CT ST Q) Qr) : mw_WF G p l e R s m args below meth cc cd.2.2.1 CT ST Q (pc, ls, st, M, c, sl) := by
  obtain ⟨hx, hb, hml, hr, hlk, hown, hnm, hts, hC⟩ := hB
  obtain ⟨i, len, ⟨r1, r2, r3⟩, ps, y, k⟩ := q
  dsimp only at hq
  subst hq
  unfold mw_chkI at hc
  simp only [Bool.and_eq_true, decide_eq_true_eq] at hc
  obtain ⟨hd, hc⟩ := hc
  have hd := mw_dec_eq hd
  try dsimp only at hd hc
  unfold mw_ins at h
  try dsimp only at h
  intro H locs cells slots lsR hR hS hL hcc hss
  dsimp only at hR hS hL hcc hss ⊢

  obtain rfl := hc
  split at h
  · exact lv_i2d hx hb hd (h H locs cells slots lsR hR hS hL hcc hss)
  · exact h.elim
theorem mw_i_i2f (hB : mw_Bd G p s m args meth cc cd) {q : mw_I} {pc : Nat} {ls : List (Option Value)} {st : List Value} {M : mw_Mem} {c sl : Nat} {sc : Nat × (Nat → Int32)} {rt : Option FieldType} {Qr : Option Value → mw_Mem → Prop}  (hq : q.1 = .i2f) (hc : mw_chkI cd.1 cd.2.1 pc q = true) (h : mw_app (mw_ins sc rt q pc ls st M c sl) (mw_WF G p l e R s m args below meth cc cd.2.2.1 CT ST Q) Qr) : mw_WF G p l e R s m args below meth cc cd.2.2.1 CT ST Q (pc, ls, st, M, c, sl) := by
  obtain ⟨hx, hb, hml, hr, hlk, hown, hnm, hts, hC⟩ := hB
  obtain ⟨i, len, ⟨r1, r2, r3⟩, ps, y, k⟩ := q
  dsimp only at hq
  subst hq
  unfold mw_chkI at hc
  simp only [Bool.and_eq_true, decide_eq_true_eq] at hc
  obtain ⟨hd, hc⟩ := hc
  have hd := mw_dec_eq hd
  try dsimp only at hd hc
  unfold mw_ins at h
  try dsimp only at h
  intro H locs cells slots lsR hR hS hL hcc hss
  dsimp only at hR hS hL hcc hss ⊢

  obtain rfl := hc
  split at h
  · exact lv_i2f hx hb hd (h H locs cells slots lsR hR hS hL hcc hss)
  · exact h.elim
theorem mw_i_lcmp (hB : mw_Bd G p s m args meth cc cd) {q : mw_I} {pc : Nat} {ls : List (Option Value)} {st : List Value} {M : mw_Mem} {c sl : Nat} {sc : Nat × (Nat → Int32)} {rt : Option FieldType} {Qr : Option Value → mw_Mem → Prop}  (hq : q.1 = .lcmp) (hc : mw_chkI cd.1 cd.2.1 pc q = true) (h : mw_app (mw_ins sc rt q pc ls st M c sl) (mw_WF G p l e R s m args below meth cc cd.2.2.1 CT ST Q) Qr) : mw_WF G p l e R s m args below meth cc cd.2.2.1 CT ST Q (pc, ls, st, M, c, sl) := by
  obtain ⟨hx, hb, hml, hr, hlk, hown, hnm, hts, hC⟩ := hB
  obtain ⟨i, len, ⟨r1, r2, r3⟩, ps, y, k⟩ := q
  dsimp only at hq
  subst hq
  unfold mw_chkI at hc
  simp only [Bool.and_eq_true, decide_eq_true_eq] at hc
  obtain ⟨hd, hc⟩ := hc
  have hd := mw_dec_eq hd
  try dsimp only at hd hc
  unfold mw_ins at h
  try dsimp only at h
  intro H locs cells slots lsR hR hS hL hcc hss
  dsimp only at hR hS hL hcc hss ⊢

  obtain rfl := hc
  split at h
  · exact W.lcmp hx hb hd (h H locs cells slots lsR hR hS hL hcc hss)
  · exact h.elim
theorem mw_i_dcmp (hB : mw_Bd G p s m args meth cc cd) {q : mw_I} {pc : Nat} {ls : List (Option Value)} {st : List Value} {M : mw_Mem} {c sl : Nat} {sc : Nat × (Nat → Int32)} {rt : Option FieldType} {Qr : Option Value → mw_Mem → Prop} {op : CmpOp} (hq : q.1 = .dcmp op) (hc : mw_chkI cd.1 cd.2.1 pc q = true) (h : mw_app (mw_ins sc rt q pc ls st M c sl) (mw_WF G p l e R s m args below meth cc cd.2.2.1 CT ST Q) Qr) : mw_WF G p l e R s m args below meth cc cd.2.2.1 CT ST Q (pc, ls, st, M, c, sl) := by
  obtain ⟨hx, hb, hml, hr, hlk, hown, hnm, hts, hC⟩ := hB
  obtain ⟨i, len, ⟨r1, r2, r3⟩, ps, y, k⟩ := q
  dsimp only at hq
  subst hq
  unfold mw_chkI at hc
  simp only [Bool.and_eq_true, decide_eq_true_eq] at hc
  obtain ⟨hd, hc⟩ := hc
  have hd := mw_dec_eq hd
  try dsimp only at hd hc
  unfold mw_ins at h
  try dsimp only at h
  intro H locs cells slots lsR hR hS hL hcc hss
  dsimp only at hR hS hL hcc hss ⊢

  obtain rfl := hc
  split at h
  · exact lv_dcmp hx hb hd (h H locs cells slots lsR hR hS hL hcc hss)
  · exact h.elim
theorem mw_i_fcmp (hB : mw_Bd G p s m args meth cc cd) {q : mw_I} {pc : Nat} {ls : List (Option Value)} {st : List Value} {M : mw_Mem} {c sl : Nat} {sc : Nat × (Nat → Int32)} {rt : Option FieldType} {Qr : Option Value → mw_Mem → Prop} {op : CmpOp} (hq : q.1 = .fcmp op) (hc : mw_chkI cd.1 cd.2.1 pc q = true) (h : mw_app (mw_ins sc rt q pc ls st M c sl) (mw_WF G p l e R s m args below meth cc cd.2.2.1 CT ST Q) Qr) : mw_WF G p l e R s m args below meth cc cd.2.2.1 CT ST Q (pc, ls, st, M, c, sl) := by
  obtain ⟨hx, hb, hml, hr, hlk, hown, hnm, hts, hC⟩ := hB
  obtain ⟨i, len, ⟨r1, r2, r3⟩, ps, y, k⟩ := q
  dsimp only at hq
  subst hq
  unfold mw_chkI at hc
  simp only [Bool.and_eq_true, decide_eq_true_eq] at hc
  obtain ⟨hd, hc⟩ := hc
  have hd := mw_dec_eq hd
  try dsimp only at hd hc
  unfold mw_ins at h
  try dsimp only at h
  intro H locs cells slots lsR hR hS hL hcc hss
  dsimp only at hR hS hL hcc hss ⊢

  obtain rfl := hc
  split at h
  · exact lv_fcmp hx hb hd (h H locs cells slots lsR hR hS hL hcc hss)
  · exact h.elim
theorem mw_i_dup (hB : mw_Bd G p s m args meth cc cd) {q : mw_I} {pc : Nat} {ls : List (Option Value)} {st : List Value} {M : mw_Mem} {c sl : Nat} {sc : Nat × (Nat → Int32)} {rt : Option FieldType} {Qr : Option Value → mw_Mem → Prop}  (hq : q.1 = .dup) (hc : mw_chkI cd.1 cd.2.1 pc q = true) (h : mw_app (mw_ins sc rt q pc ls st M c sl) (mw_WF G p l e R s m args below meth cc cd.2.2.1 CT ST Q) Qr) : mw_WF G p l e R s m args below meth cc cd.2.2.1 CT ST Q (pc, ls, st, M, c, sl) := by
  obtain ⟨hx, hb, hml, hr, hlk, hown, hnm, hts, hC⟩ := hB
  obtain ⟨i, len, ⟨r1, r2, r3⟩, ps, y, k⟩ := q
  dsimp only at hq
  subst hq
  unfold mw_chkI at hc
  simp only [Bool.and_eq_true, decide_eq_true_eq] at hc
  obtain ⟨hd, hc⟩ := hc
  have hd := mw_dec_eq hd
  try dsimp only at hd hc
  unfold mw_ins at h
  try dsimp only at h
  intro H locs cells slots lsR hR hS hL hcc hss
  dsimp only at hR hS hL hcc hss ⊢

  obtain rfl := hc
  split at h
  · exact lv_dup hx hb hd rfl (h H locs cells slots lsR hR hS hL hcc hss)
  · exact lv_dup hx hb hd rfl (h H locs cells slots lsR hR hS hL hcc hss)
  · exact h.elim
theorem mw_i_pop (hB : mw_Bd G p s m args meth cc cd) {q : mw_I} {pc : Nat} {ls : List (Option Value)} {st : List Value} {M : mw_Mem} {c sl : Nat} {sc : Nat × (Nat → Int32)} {rt : Option FieldType} {Qr : Option Value → mw_Mem → Prop}  (hq : q.1 = .pop) (hc : mw_chkI cd.1 cd.2.1 pc q = true) (h : mw_app (mw_ins sc rt q pc ls st M c sl) (mw_WF G p l e R s m args below meth cc cd.2.2.1 CT ST Q) Qr) : mw_WF G p l e R s m args below meth cc cd.2.2.1 CT ST Q (pc, ls, st, M, c, sl) := by
  obtain ⟨hx, hb, hml, hr, hlk, hown, hnm, hts, hC⟩ := hB
  obtain ⟨i, len, ⟨r1, r2, r3⟩, ps, y, k⟩ := q
  dsimp only at hq
  subst hq
  unfold mw_chkI at hc
  simp only [Bool.and_eq_true, decide_eq_true_eq] at hc
  obtain ⟨hd, hc⟩ := hc
  have hd := mw_dec_eq hd
  try dsimp only at hd hc
  unfold mw_ins at h
  try dsimp only at h
  intro H locs cells slots lsR hR hS hL hcc hss
  dsimp only at hR hS hL hcc hss ⊢

  obtain rfl := hc
  split at h
  · exact lv_pop hx hb hd rfl (h H locs cells slots lsR hR hS hL hcc hss)
  · exact lv_pop hx hb hd rfl (h H locs cells slots lsR hR hS hL hcc hss)
  · exact h.elim
theorem mw_i_dup_x1 (hB : mw_Bd G p s m args meth cc cd) {q : mw_I} {pc : Nat} {ls : List (Option Value)} {st : List Value} {M : mw_Mem} {c sl : Nat} {sc : Nat × (Nat → Int32)} {rt : Option FieldType} {Qr : Option Value → mw_Mem → Prop}  (hq : q.1 = .dup_x1) (hc : mw_chkI cd.1 cd.2.1 pc q = true) (h : mw_app (mw_ins sc rt q pc ls st M c sl) (mw_WF G p l e R s m args below meth cc cd.2.2.1 CT ST Q) Qr) : mw_WF G p l e R s m args below meth cc cd.2.2.1 CT ST Q (pc, ls, st, M, c, sl) := by
  obtain ⟨hx, hb, hml, hr, hlk, hown, hnm, hts, hC⟩ := hB
  obtain ⟨i, len, ⟨r1, r2, r3⟩, ps, y, k⟩ := q
  dsimp only at hq
  subst hq
  unfold mw_chkI at hc
  simp only [Bool.and_eq_true, decide_eq_true_eq] at hc
  obtain ⟨hd, hc⟩ := hc
  have hd := mw_dec_eq hd
  try dsimp only at hd hc
  unfold mw_ins at h
  try dsimp only at h
  intro H locs cells slots lsR hR hS hL hcc hss
  dsimp only at hR hS hL hcc hss ⊢

  obtain rfl := hc
  split at h
  · exact lv_dup_x1 hx hb hd rfl rfl (h H locs cells slots lsR hR hS hL hcc hss)
  · exact lv_dup_x1 hx hb hd rfl rfl (h H locs cells slots lsR hR hS hL hcc hss)
  · exact h.elim
theorem mw_i_dup2 (hB : mw_Bd G p s m args meth cc cd) {q : mw_I} {pc : Nat} {ls : List (Option Value)} {st : List Value} {M : mw_Mem} {c sl : Nat} {sc : Nat × (Nat → Int32)} {rt : Option FieldType} {Qr : Option Value → mw_Mem → Prop}  (hq : q.1 = .dup2) (hc : mw_chkI cd.1 cd.2.1 pc q = true) (h : mw_app (mw_ins sc rt q pc ls st M c sl) (mw_WF G p l e R s m args below meth cc cd.2.2.1 CT ST Q) Qr) : mw_WF G p l e R s m args below meth cc cd.2.2.1 CT ST Q (pc, ls, st, M, c, sl) := by
  obtain ⟨hx, hb, hml, hr, hlk, hown, hnm, hts, hC⟩ := hB
  obtain ⟨i, len, ⟨r1, r2, r3⟩, ps, y, k⟩ := q
  dsimp only at hq
  subst hq
  unfold mw_chkI at hc
  simp only [Bool.and_eq_true, decide_eq_true_eq] at hc
  obtain ⟨hd, hc⟩ := hc
  have hd := mw_dec_eq hd
  try dsimp only at hd hc
  unfold mw_ins at h
  try dsimp only at h
  intro H locs cells slots lsR hR hS hL hcc hss
  dsimp only at hR hS hL hcc hss ⊢

  obtain rfl := hc
  split at h
  · exact lv_dup2_11 hx hb hd rfl rfl (h H locs cells slots lsR hR hS hL hcc hss)
  · exact h.elim
theorem mw_i_if_icmp (hB : mw_Bd G p s m args meth cc cd) {q : mw_I} {pc : Nat} {ls : List (Option Value)} {st : List Value} {M : mw_Mem} {c sl : Nat} {sc : Nat × (Nat → Int32)} {rt : Option FieldType} {Qr : Option Value → mw_Mem → Prop} {cn : ClassFile.Cond} {off : Int} (hq : q.1 = .if_icmp cn off) (hc : mw_chkI cd.1 cd.2.1 pc q = true) (h : mw_app (mw_ins sc rt q pc ls st M c sl) (mw_WF G p l e R s m args below meth cc cd.2.2.1 CT ST Q) Qr) : mw_WF G p l e R s m args below meth cc cd.2.2.1 CT ST Q (pc, ls, st, M, c, sl) := by
  obtain ⟨hx, hb, hml, hr, hlk, hown, hnm, hts, hC⟩ := hB
  obtain ⟨i, len, ⟨r1, r2, r3⟩, ps, y, k⟩ := q
  dsimp only at hq
  subst hq
  unfold mw_chkI at hc
  simp only [Bool.and_eq_true, decide_eq_true_eq] at hc
  obtain ⟨hd, hc⟩ := hc
  have hd := mw_dec_eq hd
  try dsimp only at hd hc
  unfold mw_ins at h
  try dsimp only at h
  intro H locs cells slots lsR hR hS hL hcc hss
  dsimp only at hR hS hL hcc hss ⊢

  obtain ⟨ht, rfl⟩ := hc
  split at h
  · cases cn
    · exact lv_icmp_eq hx hb hd ht (fun z => h.1 z H locs cells slots lsR hR hS hL hcc hss) (fun z => h.2 z H locs cells slots lsR hR hS hL hcc hss)
    · exact lv_icmp_ne hx hb hd ht (fun z => h.1 z H locs cells slots lsR hR hS hL hcc hss) (fun z => h.2 (fun n9 => n9 z) H locs cells slots lsR hR hS hL hcc hss)
    · exact lv_icmp_lt hx hb hd ht (fun z => h.1 z H locs cells slots lsR hR hS hL hcc hss) (fun z => h.2 z H locs cells slots lsR hR hS hL hcc hss)
    · exact lv_icmp_ge hx hb hd ht (fun z => h.1 z H locs cells slots lsR hR hS hL hcc hss) (fun z => h.2 z H locs cells slots lsR hR hS hL hcc hss)
    · exact lv_icmp_gt hx hb hd ht (fun z => h.1 z H locs cells slots lsR hR hS hL hcc hss) (fun z => h.2 z H locs cells slots lsR hR hS hL hcc hss)
    · exact lv_icmp_le hx hb hd ht (fun z => h.1 z H locs cells slots lsR hR hS hL hcc hss) (fun z => h.2 z H locs cells slots lsR hR hS hL hcc hss)
  · exact h.elim
theorem mw_i_ifCond (hB : mw_Bd G p s m args meth cc cd) {q : mw_I} {pc : Nat} {ls : List (Option Value)} {st : List Value} {M : mw_Mem} {c sl : Nat} {sc : Nat × (Nat → Int32)} {rt : Option FieldType} {Qr : Option Value → mw_Mem → Prop} {cn : ClassFile.Cond} {off : Int} (hq : q.1 = .ifCond cn off) (hc : mw_chkI cd.1 cd.2.1 pc q = true) (h : mw_app (mw_ins sc rt q pc ls st M c sl) (mw_WF G p l e R s m args below meth cc cd.2.2.1 CT ST Q) Qr) : mw_WF G p l e R s m args below meth cc cd.2.2.1 CT ST Q (pc, ls, st, M, c, sl) := by
  obtain ⟨hx, hb, hml, hr, hlk, hown, hnm, hts, hC⟩ := hB
  obtain ⟨i, len, ⟨r1, r2, r3⟩, ps, y, k⟩ := q
  dsimp only at hq
  subst hq
  unfold mw_chkI at hc
  simp only [Bool.and_eq_true, decide_eq_true_eq] at hc
  obtain ⟨hd, hc⟩ := hc
  have hd := mw_dec_eq hd
  try dsimp only at hd hc
  unfold mw_ins at h
  try dsimp only at h
  intro H locs cells slots lsR hR hS hL hcc hss
  dsimp only at hR hS hL hcc hss ⊢

  obtain ⟨ht, rfl⟩ := hc
  split at h
  · cases cn
    · exact lv_if_eq hx hb hd ht (fun z => h.1 z H locs cells slots lsR hR hS hL hcc hss) (fun z => h.2 z H locs cells slots lsR hR hS hL hcc hss)
    · exact lv_if_ne hx hb hd ht (fun z => h.1 z H locs cells slots lsR hR hS hL hcc hss) (fun z => h.2 (fun n9 => n9 z) H locs cells slots lsR hR hS hL hcc hss)
    · exact lv_if_lt hx hb hd ht (fun z => h.1 z H locs cells slots lsR hR hS hL hcc hss) (fun z => h.2 z H locs cells slots lsR hR hS hL hcc hss)
    · exact lv_if_ge hx hb hd ht (fun z => h.1 z H locs cells slots lsR hR hS hL hcc hss) (fun z => h.2 z H locs cells slots lsR hR hS hL hcc hss)
    · exact lv_if_gt hx hb hd ht (fun z => h.1 z H locs cells slots lsR hR hS hL hcc hss) (fun z => h.2 z H locs cells slots lsR hR hS hL hcc hss)
    · exact lv_if_le hx hb hd ht (fun z => h.1 z H locs cells slots lsR hR hS hL hcc hss) (fun z => h.2 z H locs cells slots lsR hR hS hL hcc hss)
  · exact h.elim
theorem mw_i_goto (hB : mw_Bd G p s m args meth cc cd) {q : mw_I} {pc : Nat} {ls : List (Option Value)} {st : List Value} {M : mw_Mem} {c sl : Nat} {sc : Nat × (Nat → Int32)} {rt : Option FieldType} {Qr : Option Value → mw_Mem → Prop} {off : Int} (hq : q.1 = .goto off) (hc : mw_chkI cd.1 cd.2.1 pc q = true) (h : mw_app (mw_ins sc rt q pc ls st M c sl) (mw_WF G p l e R s m args below meth cc cd.2.2.1 CT ST Q) Qr) : mw_WF G p l e R s m args below meth cc cd.2.2.1 CT ST Q (pc, ls, st, M, c, sl) := by
  obtain ⟨hx, hb, hml, hr, hlk, hown, hnm, hts, hC⟩ := hB
  obtain ⟨i, len, ⟨r1, r2, r3⟩, ps, y, k⟩ := q
  dsimp only at hq
  subst hq
  unfold mw_chkI at hc
  simp only [Bool.and_eq_true, decide_eq_true_eq] at hc
  obtain ⟨hd, hc⟩ := hc
  have hd := mw_dec_eq hd
  try dsimp only at hd hc
  unfold mw_ins at h
  try dsimp only at h
  intro H locs cells slots lsR hR hS hL hcc hss
  dsimp only at hR hS hL hcc hss ⊢

  obtain ⟨ht, rfl⟩ := hc
  exact lv_goto hx hb hd ht (h H locs cells slots lsR hR hS hL hcc hss)
theorem mw_i_tableswitch (hB : mw_Bd G p s m args meth cc cd) {q : mw_I} {pc : Nat} {ls : List (Option Value)} {st : List Value} {M : mw_Mem} {c sl : Nat} {sc : Nat × (Nat → Int32)} {rt : Option FieldType} {Qr : Option Value → mw_Mem → Prop} {d lo hi : Int} {offs : Array Int} (hq : q.1 = .tableswitch d lo hi offs) (hc : mw_chkI cd.1 cd.2.1 pc q = true) (h : mw_app (mw_ins sc rt q pc ls st M c sl) (mw_WF G p l e R s m args below meth cc cd.2.2.1 CT ST Q) Qr) : mw_WF G p l e R s m args below meth cc cd.2.2.1 CT ST Q (pc, ls, st, M, c, sl) := by
  obtain ⟨hx, hb, hml, hr, hlk, hown, hnm, hts, hC⟩ := hB
  obtain ⟨i, len, ⟨r1, r2, r3⟩, ps, y, k⟩ := q
  dsimp only at hq
  subst hq
  unfold mw_chkI at hc
  simp only [Bool.and_eq_true, decide_eq_true_eq] at hc
  obtain ⟨hd, hc⟩ := hc
  have hd := mw_dec_eq hd
  try dsimp only at hd hc
  unfold mw_ins at h
  try dsimp only at h
  intro H locs cells slots lsR hR hS hL hcc hss
  dsimp only at hR hS hL hcc hss ⊢

  obtain ⟨⟨h1, h2, h3⟩, h4⟩ := hc
  rw [List.all_eq_true] at h4
  split at h
  · rename_i x r
    have h := h H locs cells slots lsR hR hS hL hcc hss
    try dsimp only at h
    unfold mw_sw at h
    split at h
    · rename_i z
      exact lv_tableOut hx hb hd (Or.inl z) h1 h
    · split at h
      · rename_i z
        exact lv_tableOut hx hb hd (Or.inr z) h1 h
      · rename_i z1 z2
        have hlt : (x.toInt - lo).toNat < offs.size := by omega
        have h5 := h4 _ (List.mem_range.mpr hlt)
        simp only [decide_eq_true_eq] at h5
        rw [Array.getD_eq_getD_getElem?, Array.getElem?_eq_getElem hlt] at h5
        rw [List.getD_eq_getElem?_getD, List.getElem?_eq_getElem (by rw [h3]; exact hlt)] at h h5
        exact lv_tableIn hx hb hd z1 z2 (Array.getElem?_eq_getElem hlt) h5 h
  · exact h.elim
end
