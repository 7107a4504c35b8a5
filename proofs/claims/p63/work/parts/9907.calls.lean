/-! all steps together; calls and throws; the abstract machine is sound -/
/-! entry of a method by its name: no row among the natives -/
theorem mw_ofW {l : Launch} {y : MethodName} {ws ws' : List Cond} {rm : Room} {Pc : Array Value → State → Prop} {Qc : Array Value → State → Outcome → State → Prop} {XC : String → State → State → Prop} {mc ms : Nat} {free : Addr → Prop} {cc : ByteArray} {maxL : Nat} {ret : Option FieldType}
    (hy : plainFor y = true) (hw : ws = Cond.code y cc maxL ret :: ws')
    (body : ∀ p e s m args below meth c s₁, BodyLoose p l y (headSpec ws rm) cc maxL ret e s m args below meth c s₁ → c.maxLocals = maxL → (∀ x ∈ c.exceptionTable.toList, False) → Pc args s →
      W p l e (headSpec ws rm).room s m args below meth c s.heap [] 0 0 (vx_MQ below Qc XC args s mc ms free) (entryFrame m args maxL)) : vx_Met l y ws rm Pc Qc XC mc ms free := by
  refine MetFree.of_bodySF (code := cc) (maxLocals := maxL) (ret := ret) hy ?_ ?_
  · intro args s m h hn
    obtain ⟨meth, c, h1, h2, h3, h4, h5, h6, -, -⟩ := Cond.code_spec hn (atoms_spec (ws := ws) h _ (by rw [hw]; exact List.mem_cons_self))
    exact ⟨meth, c, h1, h2, h3, h4, h5, h6⟩
  · intro p e s m args below meth c s₁ B hml hP _
    have hh0 : s₁.heap = s.heap := by rw [B.state]; rfl
    have ht : ∀ x ∈ c.exceptionTable.toList, False := by
      obtain ⟨meth9, c9, h1, h2, -, -, -, -, h7, -⟩ := Cond.code_spec B.named (atoms_spec (ws := ws) B.pre _ (by rw [hw]; exact List.mem_cons_self))
      cases Option.some.inj (h1.symm.trans B.method)
      cases Option.some.inj (h2.symm.trans (Stand.of_body B).code)
      intro x hx
      rw [Array.isEmpty_iff.mp h7] at hx
      cases hx
    obtain ⟨t, a1, o, b1, b2, b3⟩ := body p e s m args below meth c s₁ B hml ht hP s₁ hh0 (Stand.of_body B)
    exact ⟨t, o, a1, b1, b2, b3⟩
theorem mw_ofWH {l : Launch} {y : MethodName} {ws ws' : List Cond} {rm : Room} {Pc : Array Value → State → Prop} {Qc : Array Value → State → Outcome → State → Prop} {XC : String → State → State → Prop} {mc ms : Nat} {free : Addr → Prop} {cc : ByteArray} {maxL : Nat} {ret : Option FieldType} {hh : List (Nat × Nat × Nat × Nat)}
    (hy : plainFor y = true) (hw : ws = Cond.codeWith y cc maxL ret hh :: ws')
    (body : ∀ p e s m args below meth c s₁, BodyLoose p l y (headSpec ws rm) cc maxL ret e s m args below meth c s₁ → c.maxLocals = maxL → Pc args s →
      W p l e (headSpec ws rm).room s m args below meth c s.heap [] 0 0 (vx_MQ below Qc XC args s mc ms free) (entryFrame m args maxL)) : vx_Met l y ws rm Pc Qc XC mc ms free := by
  refine MetFree.of_bodySF (code := cc) (maxLocals := maxL) (ret := ret) hy ?_ ?_
  · intro args s m h hn
    obtain ⟨m9, meth, c, hn9, h1, h2, h3, h4, -, h5, h6, -⟩ := Cond.codeWith_spec (atoms_spec (ws := ws) h _ (by rw [hw]; exact List.mem_cons_self))
    cases hn.symm.trans hn9
    exact ⟨meth, c, h1, h2, h3, h4, h5, h6⟩
  · intro p e s m args below meth c s₁ B hml hP _
    have hh0 : s₁.heap = s.heap := by rw [B.state]; rfl
    obtain ⟨t, a1, o, b1, b2, b3⟩ := body p e s m args below meth c s₁ B hml hP s₁ hh0 (Stand.of_body B)
    exact ⟨t, o, a1, b1, b2, b3⟩
theorem mw_ao_moved {t : FieldType} {u U : State} (hvm : u.vm.Alike U.vm) (h : (Cond.arrayOver (.array t)).before #[] u = true) : (Cond.arrayOver (.array t)).before #[] U = true := by
  have h0 := Cond.arrayOver_specA h
  unfold Cond.before Cond.holds at h
  simp only [Cond.value, beq_iff_eq] at h
  obtain ⟨comp, c, k, h1, h3, h4, h5⟩ := h0
  rw [h1] at h
  simp only [Option.bind_some, Option.bind_eq_some_iff, Option.map_eq_some_iff] at h
  obtain ⟨c9, h2, k9, hk9, hb9⟩ := h
  have hc9 : c9 = c := by
    have : u.vm.findClass ("[" ++ (FieldType.array t).toString) = some c9 := by
      cases hz : k9.kind with
      | array component ty => rw [hz] at hb9; simp at hb9; exact hb9.2
      | _ => rw [hz] at hb9; simp at hb9
    exact Option.some.inj (this.symm.trans h5)
  subst hc9
  obtain ⟨k', hk', he⟩ := hvm.2.2 _ _ h3
  have hi : (U.vm.classes.findIdx? fun (x : Class) => match x.kind with | .array component _ => component == comp | _ => false) = some c9 := by
    refine Eq.trans ?_ h2
    refine (va_idx_bare U.vm comp).symm.trans (Eq.trans ?_ (va_idx_bare u.vm comp))
    first | rw [hvm.bare_eq] | rw [← hvm.bare_eq]
  have hkind : k'.kind = .array comp (.array t) := by rw [he]; exact h4
  have f1 : U.vm.findClass (FieldType.array t).toString = some comp := by rw [hvm.findClass]; exact h1
  have f2 : U.vm.findClass ("[" ++ (FieldType.array t).toString) = some c9 := by rw [hvm.findClass]; exact h5
  unfold Cond.before Cond.holds
  simp only [Cond.value]
  rw [f1, Option.bind_some]
  refine (congrArg (fun o : Option Nat => (o.bind (fun c => (U.vm.classes[c]?).map fun (k : Class) => match k.kind with | .array _ ty => decide (ty = FieldType.array t) && decide (U.vm.findClass ("[" ++ (FieldType.array t).toString) = some c) | _ => false) == some true)) hi).trans ?_
  simp [hk', hkind, f2]
theorem mw_ng_moved {w : Jvm.Cond} (hk : mw_ng w = true) {s U : State} (hW : s.WarmedH U.vm) (h : va_Nw w s) : va_Nw w U := by
  cases w with
  | methodLinkNest a i x h9 => exact va_Nw.warmM hW h
  | fieldLinkNest a i b n d h9 => exact va_Nw.warmF hW h
  | declares x => exact va_Nw.warmD hW h
  | castable a b => exact va_Nw.warmC hW h
  | arrayOver t =>
    cases t with
    | object C => exact va_AO.moved (C := C) hW.alike h
    | array t => exact mw_ao_moved hW.alike h
    | _ => cases hk
  | _ => cases hk
theorem mw_Ctx_moved {G : mw_G} {s U : State} (hW : s.WarmedH U.vm) (hh : ∀ q : Nat, q < s.heap.size → ¬ mw_A G q → U.heap[q]? = s.heap[q]?) (hz : s.heap.size ≤ U.heap.size) (h : mw_Ctx G s) : mw_Ctx G U := by
  obtain ⟨h1, ⟨h2, o1, o2, o3, o4, o5, o6, o7, o8⟩, h3, h4, h5, h6, h7, h8, w1, w2, w3, w4, w5, w6, w7⟩ := h
  exact ⟨h1.moved hW.alike, ⟨(h2.moved hW.alike).kept (hh _ (Nat.lt_of_lt_of_le h3 h4.1) (fun z => absurd z.1 (Nat.not_le.mpr h3))), (o1.moved hW.alike).kept hh, (o2.moved hW.alike).kept hh, (o3.moved hW.alike).kept hh, (o4.moved hW.alike).kept hh, (o5.moved hW.alike).kept hh, (o6.moved hW.alike).kept hh, (o7.moved hW.alike).kept hh, fun i hi => (o8 i hi).warm hW⟩, h3, ⟨Nat.le_trans h4.1 hz, fun q z => Nat.lt_of_lt_of_le (h4.2 q z) hz⟩, fun w hw => mw_ng_moved (List.mem_filter.mp hw).2 hW (h5 w hw), (h6.moved hW.alike).kept hh, (h7.moved hW.alike).kept hh, fun e f he hf hn => va_Nc.moved hW.alike (h8 e f he hf hn), (w1.moved hW.alike).kept hh, (w2.moved hW.alike).kept hh, (w3.moved hW.alike).kept hh, (w4.moved hW.alike).kept hh, (w5.moved hW.alike).kept hh, (w6.moved hW.alike).kept hh, fun nm hn => va_Fw.moved ⟨(by show "java/util/Iterator" ≠ _; decide), (by show "java/util/Iterator" ≠ _; decide)⟩ hW.alike (w7 nm hn)⟩
def mw_room (d mc ms : Nat) : Room := { frames := d + 10, cells := mc, slots := ms, locals := 64 * d + 200 }
def mw_Pc (G : mw_G) (As : List Value) (M : mw_Mem) (mc : Nat) : Array Value → State → Prop := fun a U => a = (As.map (mw_tr G)).toArray ∧ mw_Ctx G U ∧ mw_Rel G M U.heap ∧ U.heap.size + mc ≤ G.1 + 990000
theorem mw_Pc_blind {G : mw_G} {As : List Value} {M : mw_Mem} {mc : Nat} : FrameBlind (mw_Pc G As M mc) := fun a U g mk h => ⟨h.1, mw_Ctx_moved (s := U) (U := U.calling g mk a) (State.WarmedH.refl U) (fun _ _ _ => rfl) (Nat.le_refl _) h.2.1, h.2.2.1, h.2.2.2⟩
def mw_ET (cd : mw_CD) (cc : Code) : Prop := ∃ tb, mw_hchk cd tb cd.2.2.2.2.2 = true ∧ cc.exceptionTable.toList = tableOf tb
def mw_RX (G : mw_G) (l : Launch) : mw_PX := fun cd d f Qr Qx => mw_chk cd = true → ∀ (p : Program) (e : Env) (R : Room) (s : State) (m : MethodId) (args : Array Value) (below : List Frame) (meth : Method) (cc : Code) (CT ST : Nat),
  mw_Bd G p s m args meth cc cd → mw_ET cd cc → (d + 10 ≤ R.frames ∧ 64 * d + 200 ≤ R.locals) → (CT ≤ R.cells ∧ ST ≤ R.slots ∧ s.heap.size + R.cells ≤ G.1 + 990000) →
  mw_WF G p l e R s m args below meth cc cd.2.2.1 CT ST (vx_MQ below (mw_QC G Qr) (mw_XC G Qx) args s CT ST (mw_A G)) f
theorem mw_sl1 : ∀ {As : List Value}, (∀ v ∈ As, v.category = 1) → (lg_sl As).length = As.length
  | [], _ => rfl
  | v :: r, h => by
    have h1 := h v List.mem_cons_self
    have h2 := mw_sl1 (As := r) (fun w hw => h w (List.mem_cons_of_mem _ hw))
    unfold lg_sl at h2 ⊢
    rw [List.flatMap_cons, if_neg (by omega), List.length_append, h2]
    simp [Nat.add_comm]
theorem mw_args1 (G : mw_G) : ∀ (As : List Value) (i n : Nat), (∀ v ∈ As, v.category = 1) → ∀ q ∈ mw_toL G i (As.map some ++ List.replicate n none), q ∈ lv_args i (As.map (mw_tr G))
  | [], i, n, _, q, hq => by
    exfalso
    obtain ⟨j, v, hj, -⟩ := (mw_toL_in G _ i q).mp hq
    simp only [List.map_nil, List.nil_append, List.getElem?_replicate] at hj
    split at hj <;> simp at hj
  | v :: r, i, n, h, q, hq => by
    have h1 := h v List.mem_cons_self
    rw [List.map_cons, lv_args, if_neg (by rw [mw_tr_cat]; omega)]
    rw [List.map_cons, List.cons_append, mw_toL] at hq
    rcases List.mem_cons.mp hq with rfl | hq
    · exact List.mem_cons_self
    · exact List.mem_cons_of_mem _ (mw_args1 G r (i + 1) n (fun w hw => h w (List.mem_cons_of_mem _ hw)) q hq)
theorem mw_met {G : mw_G} {l : Launch} {cd : mw_CD} (hG : mw_Good cd) {tb : List (Nat × Nat × Nat × Nat)} (htb : mw_hchk cd tb cd.2.2.2.2.2 = true) {d mc ms : Nat} {M : mw_Mem} {As : List Value} {Qr : Option Value → mw_Mem → Prop} {Qx : Nat → mw_Mem → Prop} (hcat : ∀ v ∈ As, v.category = 1) (hlen : As.length ≤ cd.2.2.1)
    (h : mw_RX G l cd d (0, mw_entry cd.2.2.1 As, [], M, mc, ms) Qr Qx) : vx_Met l cd.1 (mw_cw cd tb :: mw_T) (mw_room d mc ms) (mw_Pc G As M mc) (mw_QC G Qr) (mw_XC G Qx) mc ms (mw_A G) := by
  have key : ∀ p e s m args below meth cc s₁, BodyLoose p l cd.1 (headSpec (mw_cw cd tb :: mw_T) (mw_room d mc ms)) cd.2.1 cd.2.2.1 cd.2.2.2.1 e s m args below meth cc s₁ → cc.maxLocals = cd.2.2.1 → mw_ET cd cc → mw_Pc G As M mc args s →
      W p l e (headSpec (mw_cw cd tb :: mw_T) (mw_room d mc ms)).room s m args below meth cc s.heap [] 0 0 (vx_MQ below (mw_QC G Qr) (mw_XC G Qx) args s mc ms (mw_A G)) (entryFrame m args cd.2.2.1) := by
    intro p e s m args below meth cc s₁ B hml het hP
    obtain ⟨rfl, hC, hR, hsz⟩ := hP
    have hts := atoms_spec (ws := mw_cw cd tb :: mw_T) B.pre
    have hB : mw_Bd G p s m (As.map (mw_tr G)).toArray meth cc cd := ⟨B.exec, B.bytes, hml, B.returns, B.notSynchronized, findClass_of_methodNamed B.named, (name_of_methodNamed B.named B.method).1, fun w hw => hts w (List.mem_cons_of_mem _ hw), hC⟩
    have hcat' : ∀ v ∈ As.map (mw_tr G), v.category = 1 := fun v hv => by
      obtain ⟨w, hw, rfl⟩ := List.mem_map.mp hv
      rw [mw_tr_cat]; exact hcat w hw
    have hsl : (lg_sl (As.map (mw_tr G))).length = As.length := by rw [mw_sl1 hcat', List.length_map]
    have hl := lv_entry (As.map (mw_tr G)) (n := cd.2.2.1) (by rw [hsl]; exact hlen)
    have hL : mw_LR G cd.2.2.1 (mw_entry cd.2.2.1 As) ((lg_sl (As.map (mw_tr G)) ++ List.replicate (cd.2.2.1 - (lg_sl (As.map (mw_tr G))).length) Slot.unset).toArray) := by
      refine ⟨by unfold mw_entry; simp; omega, hl.1, hl.2.1, fun q hq => hl.2.2 q (mw_args1 G As 0 _ hcat q hq)⟩
    rw [lg_entry_eq]
    exact h hG.1 p e _ s m _ below meth cc mc ms hB het ⟨Nat.le_refl _, Nat.le_refl _⟩ ⟨Nat.le_refl _, Nat.le_refl _, hsz⟩ s.heap [] 0 0 _ hR va_S.rf hL (by simp) (by simp)
  cases tb with
  | nil =>
    refine mw_ofW hG.2.1 rfl ?_
    intro p e s m args below meth cc s₁ B hml het hP
    refine key p e s m args below meth cc s₁ B hml ⟨[], htb, ?_⟩ hP
    cases hz : cc.exceptionTable.toList with
    | nil => rfl
    | cons z zs => exact (het z (by rw [hz]; exact List.mem_cons_self)).elim
  | cons t ts =>
    refine mw_ofWH hG.2.1 rfl ?_
    intro p e s m args below meth cc s₁ B hml hP
    exact key p e s m args below meth cc s₁ B hml ⟨t :: ts, htb, vx_table (x := cd.1) B (atoms_spec (ws := mw_cw cd (t :: ts) :: mw_T) B.pre _ List.mem_cons_self)⟩ hP

/-- a view of the heap from off places on, what N doesn't name left alone -/
noncomputable def mw_Gx (G : mw_G) (off : Nat) (N : mw_Mem) (z : Nat) : mw_G := (G.1 + off, G.2.1, G.2.2.1, (fun a => if a < 2000000 then G.2.2.2.1 a else if G.1 + off ≤ a - 2000000 ∧ a - 2000000 < z ∧ (N.2.2.2.2.1 (a - 2000000 - (G.1 + off))).isNone = true then 1 else 0), G.2.2.2.2)
theorem mw_Gx_prot {G : mw_G} {off z q : Nat} {N : mw_Mem} : mw_prot (mw_Gx G off N z) q ↔ (G.1 + off ≤ q ∧ q < z ∧ N.2.2.2.2.1 (q - (G.1 + off)) = none) := by
  unfold mw_prot mw_Gx
  dsimp only
  rw [if_neg (by omega), show 2000000 + q - 2000000 = q by omega]
  constructor
  · intro h
    split at h
    · rename_i h9
      exact ⟨h9.1, h9.2.1, Option.isNone_iff_eq_none.mp h9.2.2⟩
    · cases h
  · rintro ⟨h1, h2, h3⟩
    rw [if_pos ⟨h1, h2, Option.isNone_iff_eq_none.mpr h3⟩]
theorem mw_Gx_rho {G : mw_G} {off z : Nat} {N : mw_Mem} (a : Nat) : mw_rho (mw_Gx G off N z) a = mw_rho G (mw_up off a) := by
  unfold mw_rho mw_up mw_Gx
  dsimp only
  by_cases h1 : a < 1000000
  · rw [if_pos h1, if_pos h1]
    by_cases h2 : a + off < 1000000
    · rw [if_pos h2, if_pos h2]
      omega
    · rw [if_neg h2, if_neg (by omega), if_neg (by omega)]
      omega
  · rw [if_neg h1, if_neg h1]
    by_cases h2 : a < 2000000
    · have e : (if a < 2000000 then a else a + off) = a := if_pos h2
      rw [if_pos h2, e, if_neg h1, if_pos h2, if_pos h2]
    · rw [if_neg h2, if_neg h2, if_neg (by omega), if_neg (by omega)]
      omega
theorem mw_Gx_old {G : mw_G} {off z a : Nat} {N : mw_Mem} (h1 : 1000000 ≤ a) (h2 : a < 2000000) : mw_rho (mw_Gx G off N z) a = mw_rho G a := by
  rw [mw_Gx_rho]
  unfold mw_up
  rw [if_neg (by omega), if_pos h2]
theorem mw_Gx_at {G : mw_G} {off z a : Nat} {N : mw_Mem} (h : a < 2000000) : (mw_Gx G off N z).2.2.2.1 a = G.2.2.2.1 a := by
  unfold mw_Gx
  dsimp only
  rw [if_pos h]
theorem mw_Gx_fm {G : mw_G} {off z : Nat} {N : mw_Mem} : mw_fm (mw_Gx G off N z) = mw_fm G := by
  have h1 : (mw_Gx G off N z).2.2.2.1 1000300 = G.2.2.2.1 1000300 := mw_Gx_at (by decide)
  have h2 : (mw_Gx G off N z).2.2.2.1 1000301 = G.2.2.2.1 1000301 := mw_Gx_at (by decide)
  unfold mw_fm
  rw [h1, h2]
theorem mw_Gx_tr {G : mw_G} {off z : Nat} {N : mw_Mem} (v : Value) : mw_tr (mw_Gx G off N z) v = mw_tr G (mw_upV off v) := by
  cases v with
  | ref a => exact congrArg Value.ref (mw_Gx_rho a)
  | retAddr a =>
    exact mw_Gx_fm
  | _ => rfl
theorem mw_Gx_map {G : mw_G} {off z : Nat} {N : mw_Mem} (r : Option Nat) : r.map (mw_rho (mw_Gx G off N z)) = (r.map (mw_up off)).map (mw_rho G) := by
  cases r with
  | none => rw [Option.map_none, Option.map_none, Option.map_none]
  | some a => rw [Option.map_some, Option.map_some, Option.map_some, mw_Gx_rho a]
theorem mw_Gx_cell {G : mw_G} {off z a b k n : Nat} {N K M : mw_Mem} (h1 : M.1 b = K.1 a) (h2 : M.2.1 b = K.2.1 a) (h3 : M.2.2.1 b = K.2.2.1 a) (h4 : ∀ j, M.2.2.2.1 b j = (K.2.2.2.1 a j).map (mw_up off)) : mw_cell G M k n b = mw_cell (mw_Gx G off N z) K k n a := by
  have e4 : ∀ j, (M.2.2.2.1 b j).map (mw_rho G) = (K.2.2.2.1 a j).map (mw_rho (mw_Gx G off N z)) := fun j => by rw [h4, mw_Gx_map]
  have e5 : mw_fv G M k b = mw_fv (mw_Gx G off N z) K k a := by
    funext j
    unfold mw_fv mw_gv
    split
    · rw [h2]; rfl
    · rw [mw_tr_rv, mw_tr_rv, e4]
    · rw [h1]; rfl
  have e6 : (fun j => (M.2.2.2.1 b j).map (mw_rho G)) = fun j => (K.2.2.2.1 a j).map (mw_rho (mw_Gx G off N z)) := funext e4
  have eG : (mw_Gx G off N z).2.2.1 = G.2.2.1 := rfl
  unfold mw_cell
  rw [h1, e6, eG]
  split <;> first | rw [e5] | rfl
theorem mw_Gx_Rel {G : mw_G} {off : Nat} {N M : mw_Mem} {H : Heap} (hs : mw_sub off N M) (hR : mw_Rel G M H) : mw_Rel (mw_Gx G off N H.size) N H := by
  refine ⟨by rw [hR.1, hs.1]; show _ = G.1 + off + _; omega, fun a q hq => ?_⟩
  obtain ⟨s1, s2, s3, s4, s5, s6⟩ := hs.2 a q hq
  obtain ⟨r1, r2, r3⟩ := hR.2 _ q s1
  refine ⟨by omega, ⟨r2.1, fun z => ?_⟩, ?_⟩
  · have z := (mw_Gx_prot.mp z).2.2
    rw [show (mw_Gx G off N H.size).1 + a - (G.1 + off) = a by show G.1 + off + a - _ = a; omega, hq] at z
    cases z
  · rw [← mw_Gx_cell (G := G) (M := M) (K := N) (a := a) (b := a + off) s3 s4 s5 s6, show (mw_Gx G off N H.size).1 + a = G.1 + (a + off) by show G.1 + off + a = _; omega]
    exact r3
theorem mw_Gx_A {G : mw_G} {off z q : Nat} {N M : mw_Mem} {H : Heap} (hs : mw_sub off N M) (hR : mw_Rel G M H) (hz : z = H.size) (hp : ∀ q, mw_prot G q → q < z) (h : mw_A (mw_Gx G off N z) q) : mw_A G q := by
  refine ⟨by have : G.1 + off ≤ q := h.1; omega, fun w => h.2 (mw_Gx_prot.mpr ⟨h.1, hp q w, ?_⟩)⟩
  cases e : N.2.2.2.2.1 (q - (G.1 + off)) with
  | none => rfl
  | some k =>
    exfalso
    have h1 : G.1 + off ≤ q := h.1
    have h2 := (hR.2 _ k (hs.2 _ k e).1).2.1.2
    rw [show G.1 + (q - (G.1 + off) + off) = q by omega] at h2
    exact h2 w
theorem mw_Gx_Ctx {G : mw_G} {off : Nat} {N M : mw_Mem} {s : State} (hs : mw_sub off N M) (hR : mw_Rel G M s.heap) (h : mw_Ctx G s) : mw_Ctx (mw_Gx G off N s.heap.size) s := by
  obtain ⟨h1, ⟨h2, o1, o2, o3, o4, o5, o6, o7, o8⟩, h3, h4, h5, h6, h7, h8, w1, w2, w3, w4, w5, w6, w7⟩ := h
  have hA : ∀ q, mw_A (mw_Gx G off N s.heap.size) q → mw_A G q := fun q hq => mw_Gx_A hs hR rfl h4.2 hq
  have e1 : ∀ i : Nat, i < 30 → mw_rho (mw_Gx G off N s.heap.size) (1000001 + i) = mw_rho G (1000001 + i) := fun i hi => mw_Gx_old (by omega) (by omega)
  have e3 : mw_fm (mw_Gx G off N s.heap.size) = mw_fm G := mw_Gx_fm
  have hn : s.heap.size = G.1 + (N.2.2.2.2.2 + off) := by rw [hR.1, hs.1]
  refine ⟨h1, ⟨?_, o1.narrow hA, ?_, ?_, ?_, ?_, ?_, ?_, ?_⟩, ?_, ⟨?_, fun q z => (mw_Gx_prot.mp z).2.1⟩, h5, h6.narrow hA, h7.narrow hA, h8, w1.narrow hA, ?_, ?_, ?_, ?_, ?_, w7⟩
  · rw [mw_Gx_at (by decide)]
    exact h2
  · rw [mw_Gx_old (by decide) (by decide)]
    exact o2.narrow hA
  · rw [mw_Gx_old (by decide) (by decide)]
    exact o3.narrow hA
  · rw [e3]
    exact o4.narrow hA
  · rw [mw_Gx_old (by decide) (by decide)]
    exact o5.narrow hA
  · rw [mw_Gx_old (by decide) (by decide)]
    exact o6.narrow hA
  · have o7' := o7.narrow hA
    refine ⟨fun i hi => ?_, fun i j hi hj e => ?_⟩
    · have := o7'.1 i hi
      dsimp only at this ⊢
      rw [e1 i hi, mw_Gx_old (a := 1000101 + i) (by omega) (by omega)]
      exact this
    · dsimp only at e
      rw [e1 i hi, e1 j hj] at e
      exact o7'.2 i j hi hj e
  · intro i hi
    rw [e1 i hi]
    exact o8 i hi
  · rw [mw_Gx_at (by decide)]
    show _ < G.1 + off
    omega
  · show G.1 + off ≤ s.heap.size
    omega
  · rw [mw_Gx_old (by decide) (by decide)]
    exact w2.narrow hA
  · rw [mw_Gx_old (by decide) (by decide)]
    exact w3.narrow hA
  · have w4' := w4.narrow hA
    rw [mw_Gx_old (by decide) (by decide)]
    obtain ⟨cell, z1, z2, z3, z4, z5, z6, z7⟩ := w4'
    exact ⟨cell, z1, z2, z3, z4, z5, fun j hj => by dsimp only; rw [mw_Gx_old (by omega) (by omega)]; exact z6 j hj, z7⟩
  · have w5' := w5.narrow hA
    refine ⟨fun k hk => ?_, fun k hk => ?_⟩
    · have := w5'.1 k hk
      dsimp only at this ⊢
      rw [mw_Gx_old (by omega) (by omega)]
      exact this
    · have := w5'.2 k hk
      dsimp only at this ⊢
      rw [mw_Gx_old (by omega) (by omega)]
      exact this
  · rw [mw_Gx_old (by decide) (by decide)]
    exact w6.narrow hA
/-- behind the call the whole memory again -/
theorem mw_Gx_back {G : mw_G} {off : Nat} {N K M : mw_Mem} {H H1 : Heap} (hs : mw_sub off N M) (hR : mw_Rel G M H) (hp : ∀ q, mw_prot G q → q < H.size) (hR1 : mw_Rel (mw_Gx G off N H.size) K H1) (hF : ∀ q : Nat, q < H.size → ¬ mw_A (mw_Gx G off N H.size) q → H1[q]? = H[q]?) : mw_Rel G (mw_join off M N K) H1 := by
  have hn : H.size = G.1 + (N.2.2.2.2.2 + off) := by rw [hR.1, hs.1]
  refine ⟨by rw [hR1.1]; show G.1 + off + _ = G.1 + (_ + off); omega, fun x q hq => ?_⟩
  have hq : (if mw_dom off M N x = true then (if x < 1000000 then K.2.2.2.2.1 (x - off) else none) else M.2.2.2.2.1 x) = some q := hq
  by_cases hd : mw_dom off M N x = true
  · rw [if_pos hd] at hq
    by_cases hx : x < 1000000
    · rw [if_pos hx] at hq
      have hd' := hd
      unfold mw_dom at hd'
      simp only [Bool.and_eq_true, Bool.or_eq_true, decide_eq_true_eq] at hd'
      obtain ⟨k1, k2, k3⟩ := hR1.2 _ q hq
      refine ⟨hx, ⟨k2.1, fun z => ?_⟩, ?_⟩
      · rcases hd'.2 with w | w
        · obtain ⟨k9, hk9⟩ := Option.isSome_iff_exists.mp w
          have := (hR.2 _ k9 (hs.2 _ k9 hk9).1).2.1.2
          rw [show x - off + off = x by omega] at this
          exact this z
        · have := hp _ z
          have := hs.1
          omega
      · rw [mw_Gx_cell (G := G) (off := off) (z := H.size) (N := N) (K := K) (M := mw_join off M N K) (a := x - off) (b := x) (if_pos hd) (if_pos hd) (if_pos hd) (fun j => if_pos hd)]
        rw [show G.1 + x = (mw_Gx G off N H.size).1 + (x - off) by show _ = G.1 + off + _; omega]
        exact k3
    · rw [if_neg hx] at hq
      cases hq
  · rw [if_neg hd] at hq
    obtain ⟨k1, k2, k3⟩ := hR.2 _ q hq
    refine ⟨k1, k2, ?_⟩
    rw [show mw_cell G (mw_join off M N K) q.1 q.2 x = mw_cell G M q.1 q.2 x from mw_cell_congr (if_neg hd) (if_neg hd) (if_neg hd) (by funext j; exact if_neg hd)]
    refine k3.kept (hF _ k3.lt (fun z => ?_))
    have z1 : G.1 + off ≤ G.1 + x := z.1
    have hl := k3.lt
    dsimp only at hl
    refine z.2 (mw_Gx_prot.mpr ⟨z1, hl, ?_⟩)
    rw [show G.1 + x - (G.1 + off) = x - off by omega]
    cases e : N.2.2.2.2.1 (x - off) with
    | none => rfl
    | some k9 =>
      exfalso
      refine hd ?_
      unfold mw_dom
      rw [e, decide_eq_true (show off ≤ x by omega)]
      rfl
theorem mw_Wmono {p : Program} {l : Launch} {e : Env} {R : Room} {s : State} {m : MethodId} {args : Array Value} {below : List Frame} {meth : Method} {c : Code} {H : Heap} {locs : List Loc} {cells slots : Nat} {Q Q' : State → Prop} {g : JFrame} (h : ∀ t, Q t → Q' t) (k : W p l e R s m args below meth c H locs cells slots Q g) : W p l e R s m args below meth c H locs cells slots Q' g := fun T hT X => by
  obtain ⟨t, a, b⟩ := k T hT X
  exact ⟨t, a, h t b⟩
theorem mw_MQ_up {below : List Frame} {Qc Qc' : Array Value → State → Outcome → State → Prop} {XC XC' : String → State → State → Prop} {a : Array Value} {s : State} {mc ms : Nat} {free free' : Addr → Prop} {t : State} (h : vx_MQ below Qc XC a s mc ms free t) (hf : ∀ q, free q → free' q) (hq : ∀ o t', Qc a s o t' → Qc' a s o t') (hx : ∀ E t', XC E s t' → XC' E s t') : vx_MQ below Qc' XC' a s mc ms free' t := by
  obtain ⟨o, h1, h2, h3⟩ := h
  refine ⟨o, h1, h2, ?_⟩
  rcases h3 with ⟨h4, L, h5, h6⟩ | ⟨q, h4, E, ce, L, h5, h6, h7, h8, h9, h10, h11⟩
  · exact Or.inl ⟨hq _ _ h4, L, h5, fun q z => hf _ (h6 q z)⟩
  · exact Or.inr ⟨q, h4, E, ce, L, hx _ _ h5, h6, h7, h8, h9, h10, fun z hz => hf _ (h11 z hz)⟩
def mw_jQ (off : Nat) (M N : mw_Mem) (Q : Option Value → mw_Mem → Prop) : Option Value → mw_Mem → Prop := fun v M' => ∃ (w : Option Value) (K : mw_Mem), v = w.map (mw_upV off) ∧ M' = mw_join off M N K ∧ Q w K
def mw_jX (off : Nat) (M N : mw_Mem) (Q : Nat → mw_Mem → Prop) : Nat → mw_Mem → Prop := fun e M' => ∃ K : mw_Mem, M' = mw_join off M N K ∧ Q e K
/-- at every view with this script -/
def mw_RA (sc : Nat × (Nat → Int32)) (l : Launch) : mw_PX := fun cd d f Qr Qx => ∀ G : mw_G, G.2.2.2.2 = sc → mw_RX G l cd d f Qr Qx
theorem mw_metX {sc : Nat × (Nat → Int32)} {G : mw_G} (hsc : G.2.2.2.2 = sc) {l : Launch} {cd : mw_CD} (hG : mw_Good cd) {tb : List (Nat × Nat × Nat × Nat)} (htb : mw_hchk cd tb cd.2.2.2.2.2 = true) {d mc ms off : Nat} {M N : mw_Mem} (hsub : mw_sub off N M) {As : List Value} {Qr : Option Value → mw_Mem → Prop} {Qx : Nat → mw_Mem → Prop} (hcat : ∀ v ∈ As, v.category = 1) (hlen : As.length ≤ cd.2.2.1)
    (h : mw_RA sc l cd d (0, mw_entry cd.2.2.1 As, [], N, mc, ms) Qr Qx) : vx_Met l cd.1 (mw_cw cd tb :: mw_T) (mw_room d mc ms) (mw_Pc G (As.map (mw_upV off)) M mc) (mw_QC G (mw_jQ off M N Qr)) (mw_XC G (mw_jX off M N Qx)) mc ms (mw_A G) := by
  have key : ∀ p e s m args below meth cc s₁, BodyLoose p l cd.1 (headSpec (mw_cw cd tb :: mw_T) (mw_room d mc ms)) cd.2.1 cd.2.2.1 cd.2.2.2.1 e s m args below meth cc s₁ → cc.maxLocals = cd.2.2.1 → mw_ET cd cc → mw_Pc G (As.map (mw_upV off)) M mc args s →
      W p l e (headSpec (mw_cw cd tb :: mw_T) (mw_room d mc ms)).room s m args below meth cc s.heap [] 0 0 (vx_MQ below (mw_QC G (mw_jQ off M N Qr)) (mw_XC G (mw_jX off M N Qx)) args s mc ms (mw_A G)) (entryFrame m args cd.2.2.1) := by
    intro p e s m args below meth cc s₁ B hml het hP
    obtain ⟨rfl, hC, hR, hsz⟩ := hP
    have eA : ((As.map (mw_upV off)).map (mw_tr G)) = As.map (mw_tr (mw_Gx G off N s.heap.size)) := by
      rw [List.map_map]
      exact List.map_congr_left (fun v _ => (mw_Gx_tr v).symm)
    have hG2 : (mw_Gx G off N s.heap.size).2.2.2.2 = sc := hsc
    have hCx := mw_Gx_Ctx hsub hR hC
    have hRx := mw_Gx_Rel hsub hR
    have hpr : ∀ q, mw_prot G q → q < s.heap.size := hC.2.2.2.1.2
    have hszx : s.heap.size + mc ≤ (mw_Gx G off N s.heap.size).1 + 990000 := by show _ ≤ G.1 + off + _; omega
    rw [eA] at B ⊢
    have hAx : ∀ q, mw_A (mw_Gx G off N s.heap.size) q → mw_A G q := fun q hq => mw_Gx_A hsub hR rfl hpr hq
    obtain ⟨Gx, hGx⟩ : ∃ Gx, mw_Gx G off N s.heap.size = Gx := ⟨_, rfl⟩
    rw [hGx] at B hG2 hCx hRx hszx hAx ⊢
    refine mw_Wmono (Q := vx_MQ below (mw_QC Gx Qr) (mw_XC Gx Qx) (As.map (mw_tr Gx)).toArray s mc ms (mw_A Gx)) ?_ ?_
    · intro t ht
      exact mw_MQ_up ht hAx (fun v t' ⟨⟨w, K, e1, hq, hK⟩, hF⟩ => ⟨⟨w.map (mw_upV off), mw_join off M N K, by rw [e1, ← hGx]; cases w with | none => rw [Option.map_none, Option.map_none, Option.map_none] | some w => rw [Option.map_some, Option.map_some, Option.map_some, mw_Gx_tr w], ⟨w, K, rfl, rfl, hq⟩, mw_Gx_back hsub hR hpr (by rw [hGx]; exact hK) (fun q h1 h2 => hF.2 q h1 (by rw [hGx] at h2; exact h2))⟩, ⟨hF.1, fun q h1 h2 => hF.2 q h1 (fun z => h2 (hAx q z))⟩⟩) (fun E t' ⟨⟨e9, K, he, hx9, hK⟩, hF⟩ => ⟨⟨e9, mw_join off M N K, he, ⟨K, rfl, hx9⟩, mw_Gx_back hsub hR hpr (by rw [hGx]; exact hK) (fun q h1 h2 => hF.2 q h1 (by rw [hGx] at h2; exact h2))⟩, ⟨hF.1, fun q h1 h2 => hF.2 q h1 (fun z => h2 (hAx q z))⟩⟩)
    have hts := atoms_spec (ws := mw_cw cd tb :: mw_T) B.pre
    have hB : mw_Bd Gx p s m (As.map (mw_tr Gx)).toArray meth cc cd := ⟨B.exec, B.bytes, hml, B.returns, B.notSynchronized, findClass_of_methodNamed B.named, (name_of_methodNamed B.named B.method).1, fun w hw => hts w (List.mem_cons_of_mem _ hw), hCx⟩
    have hcat' : ∀ v ∈ As.map (mw_tr Gx), v.category = 1 := fun v hv => by
      obtain ⟨w, hw, rfl⟩ := List.mem_map.mp hv
      rw [mw_tr_cat]; exact hcat w hw
    have hsl : (lg_sl (As.map (mw_tr Gx))).length = As.length := by rw [mw_sl1 hcat', List.length_map]
    have hl := lv_entry (As.map (mw_tr Gx)) (n := cd.2.2.1) (by rw [hsl]; exact hlen)
    have hL : mw_LR Gx cd.2.2.1 (mw_entry cd.2.2.1 As) ((lg_sl (As.map (mw_tr Gx)) ++ List.replicate (cd.2.2.1 - (lg_sl (As.map (mw_tr Gx))).length) Slot.unset).toArray) := by
      refine ⟨by unfold mw_entry; simp; omega, hl.1, hl.2.1, fun q hq => hl.2.2 q (mw_args1 Gx As 0 _ hcat q hq)⟩
    rw [lg_entry_eq]
    exact h Gx hG2 hG.1 p e _ s m _ below meth cc mc ms hB het ⟨Nat.le_refl _, Nat.le_refl _⟩ ⟨Nat.le_refl _, Nat.le_refl _, hszx⟩ s.heap [] 0 0 _ hRx va_S.rf hL (by simp) (by simp)
  cases tb with
  | nil =>
    refine mw_ofW hG.2.1 rfl ?_
    intro p e s m args below meth cc s₁ B hml het hP
    refine key p e s m args below meth cc s₁ B hml ⟨[], htb, ?_⟩ hP
    cases hz : cc.exceptionTable.toList with
    | nil => rfl
    | cons z zs => exact (het z (by rw [hz]; exact List.mem_cons_self)).elim
  | cons t ts =>
    refine mw_ofWH hG.2.1 rfl ?_
    intro p e s m args below meth cc s₁ B hml hP
    exact key p e s m args below meth cc s₁ B hml ⟨t :: ts, htb, vx_table (x := cd.1) B (atoms_spec (ws := mw_cw cd (t :: ts) :: mw_T) B.pre _ List.mem_cons_self)⟩ hP

section
variable {G : mw_G} {p : Program} {l : Launch} {e : Env} {R : Room} {s : State} {m : MethodId} {args : Array Value} {below : List Frame} {meth : Method} {cc : Code} {cd : mw_CD} {CT ST : Nat} {Q : State → Prop}
theorem mw_callW {Q1 : Option Value → mw_Mem → Prop} {X1 : Nat → mw_Mem → Prop} {H : Heap} {locs : List Loc} {cells slots mc ms pc : Nat} {lsR : Array Slot} {stR rest : List Value} {a : Array Value}
    (hr : vx_Run p l e R s m args below meth cc H locs cells slots mc ms (F0 m pc lsR stR) rest (mw_QC G Q1 a) (mw_XC G X1) (mw_A G)) (hS : va_S (mw_A G) s.heap H locs)
    (kk : ∀ (v : Option Value) (M' : mw_Mem) (H1 : Heap) (locs1 : List Loc), Q1 v M' → mw_Rel G M' H1 → va_S (mw_A G) s.heap H1 locs1 → W p l e R s m args below meth cc H1 locs1 (cells + mc) (slots + ms) Q (F0 m (pc + 3) lsR ((v.map (mw_tr G)).toList ++ rest)))
    (kx : ∀ (ex : Nat) (M' : mw_Mem) (H1 : Heap) (locs1 : List Loc) (q : Addr) (ce : Cell), ex < 6 → X1 ex M' → mw_Rel G M' H1 → va_S (mw_A G) s.heap H1 locs1 → H1[q]? = some ce → ce.vm = .none → s.vm.findClass (mw_exn ex) = some ce.cls → vx_W p l e R s m args below meth cc H1 locs1 (cells + mc) (slots + ms) Q (F0 m pc lsR rest) q) :
    W p l e R s m args below meth cc H locs cells slots Q (F0 m pc lsR stR) := by
  intro T hT X
  rcases hr T hT X with ⟨v, st₀, t, T', L, h0, X', hL, e1, e2, ⟨⟨v', M', hv, hq, hRel⟩, hF⟩, st⟩ | ⟨q, st₀, t, T', L, E, ce, h0, X', hL, e1, e2, ⟨⟨ex, M', ⟨rfl, hex⟩, hx, hRel⟩, hF⟩, hce, hcv, hcl, st⟩
  · cases hv
    obtain ⟨k1, k2, k3⟩ := vx_keep h0 e1 hS (fun _ _ h => h) (fun _ h => h) hL hF
    obtain ⟨t2, a1, b1⟩ := kk v' M' T'.heap (locs ++ L) hq (by rw [e1]; exact hRel) k3 T' rfl X'
    exact ⟨t2, st t2 a1, b1⟩
  · obtain ⟨k1, k2, k3⟩ := vx_keep h0 e1 hS (fun _ _ h => h) (fun _ h => h) hL hF
    obtain ⟨t2, a1, b1⟩ := kx ex M' T'.heap (locs ++ L) q ce hex hx (by rw [e1]; exact hRel) k3 (by rw [e1]; exact hce) hcv hcl T' rfl X'
    exact ⟨t2, st.trans a1, b1⟩

theorem mw_callW5 {Q1 : Option Value → mw_Mem → Prop} {X1 : Nat → mw_Mem → Prop} {H : Heap} {locs : List Loc} {cells slots mc ms pc : Nat} {lsR : Array Slot} {stR rest : List Value} {a : Array Value}
    (hr : vx_Run5 p l e R s m args below meth cc H locs cells slots mc ms (F0 m pc lsR stR) rest (mw_QC G Q1 a) (mw_XC G X1) (mw_A G)) (hS : va_S (mw_A G) s.heap H locs)
    (kk : ∀ (v : Option Value) (M' : mw_Mem) (H1 : Heap) (locs1 : List Loc), Q1 v M' → mw_Rel G M' H1 → va_S (mw_A G) s.heap H1 locs1 → W p l e R s m args below meth cc H1 locs1 (cells + mc) (slots + ms) Q (F0 m (pc + 5) lsR ((v.map (mw_tr G)).toList ++ rest)))
    (kx : ∀ (ex : Nat) (M' : mw_Mem) (H1 : Heap) (locs1 : List Loc) (q : Addr) (ce : Cell), ex < 6 → X1 ex M' → mw_Rel G M' H1 → va_S (mw_A G) s.heap H1 locs1 → H1[q]? = some ce → ce.vm = .none → s.vm.findClass (mw_exn ex) = some ce.cls → vx_W p l e R s m args below meth cc H1 locs1 (cells + mc) (slots + ms) Q (F0 m pc lsR rest) q) :
    W p l e R s m args below meth cc H locs cells slots Q (F0 m pc lsR stR) := by
  intro T hT X
  rcases hr T hT X with ⟨v, st₀, t, T', L, h0, X', hL, e1, e2, ⟨⟨v', M', hv, hq, hRel⟩, hF⟩, st⟩ | ⟨q, st₀, t, T', L, E, ce, h0, X', hL, e1, e2, ⟨⟨ex, M', ⟨rfl, hex⟩, hx, hRel⟩, hF⟩, hce, hcv, hcl, st⟩
  · cases hv
    obtain ⟨k1, k2, k3⟩ := vx_keep h0 e1 hS (fun _ _ h => h) (fun _ h => h) hL hF
    obtain ⟨t2, a1, b1⟩ := kk v' M' T'.heap (locs ++ L) hq (by rw [e1]; exact hRel) k3 T' rfl X'
    exact ⟨t2, st t2 a1, b1⟩
  · obtain ⟨k1, k2, k3⟩ := vx_keep h0 e1 hS (fun _ _ h => h) (fun _ h => h) hL hF
    obtain ⟨t2, a1, b1⟩ := kx ex M' T'.heap (locs ++ L) q ce hex hx (by rw [e1]; exact hRel) k3 (by rw [e1]; exact hce) hcv hcl T' rfl X'
    exact ⟨t2, st.trans a1, b1⟩

theorem mw_ins_sound {Qr : Option Value → mw_Mem → Prop} {Qx : Nat → mw_Mem → Prop} (hB : mw_Bd G p s m args meth cc cd) (hroom : CT ≤ R.cells ∧ ST ≤ R.slots ∧ s.heap.size + R.cells ≤ G.1 + 990000) (hdep : 1 ≤ R.frames ∧ 100 ≤ R.locals) {q : mw_I} {pc : Nat} {ls : List (Option Value)} {st : List Value} {M : mw_Mem} {c sl : Nat} (hc : mw_chkI cd.1 cd.2.1 pc q = true)
    (h : mw_app (mw_ins G.2.2.2.2 cd.2.2.2.1 q pc ls st M c sl) (mw_WF G p l e R s m args below meth cc cd.2.2.1 CT ST (vx_MQ below (mw_QC G Qr) (mw_XC G Qx) args s CT ST (mw_A G))) Qr) : mw_WF G p l e R s m args below meth cc cd.2.2.1 CT ST (vx_MQ below (mw_QC G Qr) (mw_XC G Qx) args s CT ST (mw_A G)) (pc, ls, st, M, c, sl) := by
  generalize hi : q.1 = i
  cases i with
  | dconst n => exact mw_i_dconst hB hi hc h
  | fconst n => exact mw_i_fconst hB hi hc h
  | iconst n => exact mw_i_iconst hB hi hc h
  | bipush n => exact mw_i_bipush hB hi hc h
  | sipush n => exact mw_i_sipush hB hi hc h
  | ldc n => exact mw_i_ldc hB hi hc h
  | ldc_w n => exact mw_i_ldc_w hB hi hc h
  | getstatic n => exact mw_i_getstatic hB hi hc h
  | ldc2_w n => exact mw_i_ldc2_w hB hi hc h
  | lconst n => exact mw_i_lconst hB hi hc h
  | iload_n n => exact mw_i_iload_n hB hi hc h
  | iload n => exact mw_i_iload hB hi hc h
  | aload_n n => exact mw_i_aload_n hB hi hc h
  | aload n => exact mw_i_aload hB hi hc h
  | fload_n n => exact mw_i_fload_n hB hi hc h
  | fload n => exact mw_i_fload hB hi hc h
  | dload_n n => exact mw_i_dload_n hB hi hc h
  | dload n => exact mw_i_dload hB hi hc h
  | istore_n n => exact mw_i_istore_n hB hi hc h
  | istore n => exact mw_i_istore hB hi hc h
  | astore_n n => exact mw_i_astore_n hB hi hc h
  | astore n => exact mw_i_astore hB hi hc h
  | fstore_n n => exact mw_i_fstore_n hB hi hc h
  | fstore n => exact mw_i_fstore hB hi hc h
  | dstore_n n => exact mw_i_dstore_n hB hi hc h
  | dstore n => exact mw_i_dstore hB hi hc h
  | iinc n z => exact mw_i_iinc hB hi hc h
  | if_icmp a b => exact mw_i_if_icmp hB hi hc h
  | ifCond a b => exact mw_i_ifCond hB hi hc h
  | goto n => exact mw_i_goto hB hi hc h
  | tableswitch a b c0 d0 => exact mw_i_tableswitch hB hi hc h
  | dcmp n => exact mw_i_dcmp hB hi hc h
  | fcmp n => exact mw_i_fcmp hB hi hc h
  | getfield n => exact mw_i_getfield hB hi hc h
  | putfield n => exact mw_i_putfield hB hi hc h
  | new n => exact mw_i_new hB hroom hi hc h
  | newarray n => exact mw_i_newarray hB hroom hi hc h
  | anewarray n => exact mw_i_anewarray hB hroom hi hc h
  | multianewarray a b => exact mw_i_multianewarray hB hroom hi hc h
  | invokespecial n => exact mw_i_invokespecial hB hdep hi hc h
  | invokestatic n => exact mw_i_invokestatic hB hdep hi hc h
  | iadd  => exact mw_i_iadd hB hi hc h
  | isub  => exact mw_i_isub hB hi hc h
  | imul  => exact mw_i_imul hB hi hc h
  | iand  => exact mw_i_iand hB hi hc h
  | ior  => exact mw_i_ior hB hi hc h
  | ixor  => exact mw_i_ixor hB hi hc h
  | ishl  => exact mw_i_ishl hB hi hc h
  | ishr  => exact mw_i_ishr hB hi hc h
  | ladd  => exact mw_i_ladd hB hi hc h
  | lsub  => exact mw_i_lsub hB hi hc h
  | lmul  => exact mw_i_lmul hB hi hc h
  | idiv  => exact mw_i_idiv hB hi hc h
  | irem  => exact mw_i_irem hB hi hc h
  | f2d  => exact mw_i_f2d hB hi hc h
  | ddiv  => exact mw_i_ddiv hB hi hc h
  | fdiv  => exact mw_i_fdiv hB hi hc h
  | ineg  => exact mw_i_ineg hB hi hc h
  | i2l  => exact mw_i_i2l hB hi hc h
  | i2c  => exact mw_i_i2c hB hi hc h
  | i2b  => exact mw_i_i2b hB hi hc h
  | i2d  => exact mw_i_i2d hB hi hc h
  | i2f  => exact mw_i_i2f hB hi hc h
  | lcmp  => exact mw_i_lcmp hB hi hc h
  | dup  => exact mw_i_dup hB hi hc h
  | pop  => exact mw_i_pop hB hi hc h
  | dup_x1  => exact mw_i_dup_x1 hB hi hc h
  | aconst_null  => exact mw_i_aconst_null hB hi hc h
  | ifnonnull n => exact mw_i_ifnonnull hB hi hc h
  | if_acmp a b => exact mw_i_if_acmp hB hi hc h
  | checkcast n => exact mw_i_checkcast hB hi hc h
  | l2i  => exact mw_i_l2i hB hi hc h
  | dup2  => exact mw_i_dup2 hB hi hc h
  | iaload  => exact mw_i_iaload hB rfl hi hc h
  | caload  => exact mw_i_caload hB hi hc h
  | baload  => exact mw_i_baload hB hi hc h
  | laload  => exact mw_i_laload hB hi hc h
  | daload  => exact mw_i_daload hB hi hc h
  | aaload  => exact mw_i_aaload hB hi hc h
  | iastore  => exact mw_i_iastore hB hi hc h
  | castore  => exact mw_i_castore hB hi hc h
  | bastore  => exact mw_i_bastore hB hi hc h
  | lastore  => exact mw_i_lastore hB hi hc h
  | dastore  => exact mw_i_dastore hB hi hc h
  | aastore  => exact mw_i_aastore hB hi hc h
  | arraylength  => exact mw_i_arraylength hB rfl hi hc h
  | ireturn  => exact mw_i_ireturn hB rfl hi hc h
  | lreturn  => exact mw_i_lreturn hB rfl hi hc h
  | freturn  => exact mw_i_freturn hB rfl hi hc h
  | dreturn  => exact mw_i_dreturn hB rfl hi hc h
  | areturn  => exact mw_i_areturn hB rfl hi hc h
  | return_  => exact mw_i_return_ hB rfl hi hc h
  | _ =>
    exfalso
    unfold mw_ins at h
    rw [hi] at h
    exact h
end
