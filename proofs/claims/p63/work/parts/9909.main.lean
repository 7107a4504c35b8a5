/-! the rules are sound: mw_Wp gives the machine's own walk -/
section
variable {G : mw_G} {p : Program} {l : Launch} {e : Env} {R : Room} {s : State} {m : MethodId} {args : Array Value} {below : List Frame} {meth : Method} {cc : Code} {cd : mw_CD} {CT ST : Nat} {Q : State → Prop}
theorem mw_icon_ok (hB : mw_Bd G p s m args meth cc cd) {Qr : Option Value → mw_Mem → Prop} {Qx : Nat → mw_Mem → Prop} {k pc : Nat} (hk : mw_icon cd.2.1 pc k = true) (hret : cd.2.2.2.1 = some .int) {M : mw_Mem} {H : Heap} {locs : List Loc} {cells slots : Nat} {ls : Array Slot} (hR : mw_Rel G M H) (hS : va_S (mw_A G) s.heap H locs) (hcc : cells ≤ CT) (hss : slots ≤ ST) (hQ : Qr (some (.int (Int32.ofNat k))) M) :
    W p l e R s m args below meth cc H locs cells slots (vx_MQ below (mw_QC G Qr) (mw_XC G Qx) args s CT ST (mw_A G)) (F0 m pc ls []) := by
  obtain ⟨hx, hb, hml, hr, hlk, hown, hnm, hts, hC⟩ := hB
  unfold mw_icon at hk
  split at hk
  · rename_i n e9
    simp only [Bool.and_eq_true] at hk
    obtain ⟨h1, h2⟩ := hk
    have h1 := of_decide_eq_true h1
    refine lv_iconst hx hb e9 h1 ?_
    refine W.widen (k := CT) (n := ST) hcc hss (vx_ret ?_)
    exact W.iret hx hb (hr.trans hret) (fun t ht hW => ⟨⟨some (.int (Int32.ofNat k)), M, rfl, hQ, by rw [ht]; exact hR⟩, hS.F ht⟩) hS.2.2 (mw_dec_eq h2) hlk
  · rename_i n e9
    simp only [Bool.and_eq_true] at hk
    obtain ⟨h1, h2⟩ := hk
    have h1 := of_decide_eq_true h1
    refine lv_bipush hx hb e9 h1 ?_
    refine W.widen (k := CT) (n := ST) hcc hss (vx_ret ?_)
    exact W.iret hx hb (hr.trans hret) (fun t ht hW => ⟨⟨some (.int (Int32.ofNat k)), M, rfl, hQ, by rw [ht]; exact hR⟩, hS.F ht⟩) hS.2.2 (mw_dec_eq h2) hlk
  · cases hk
theorem mw_hcode_ok (hB : mw_Bd G p s m args meth cc cd) {Qr : Option Value → mw_Mem → Prop} {Qx : Nat → mw_Mem → Prop} {k pc : Nat} (hk : mw_hcode cd.2.1 pc cd.2.2.1 k = true) (hret : cd.2.2.2.1 = some .int) {M : mw_Mem} {H : Heap} {locs : List Loc} {cells slots : Nat} {ls : Array Slot} {q : Nat} {lv : List (Nat × Value)} (hl : lv_has ls cd.2.2.1 lv) (hR : mw_Rel G M H) (hS : va_S (mw_A G) s.heap H locs) (hcc : cells ≤ CT) (hss : slots ≤ ST) (hQ : Qr (some (.int (Int32.ofNat k))) M) :
    W p l e R s m args below meth cc H locs cells slots (vx_MQ below (mw_QC G Qr) (mw_XC G Qx) args s CT ST (mw_A G)) (F0 m pc ls [.ref q]) := by
  have hB' := hB
  obtain ⟨hx, hb, hml, hr, hlk, hown, hnm, hts, hC⟩ := hB
  unfold mw_hcode at hk
  split at hk
  · rename_i j e9
    simp only [Bool.and_eq_true, decide_eq_true_eq] at hk
    exact lv_astore_n hx hb e9 rfl hl hk.1 rfl (fun ls' _ => mw_icon_ok hB' hk.2 hret hR hS hcc hss hQ)
  · rename_i j e9
    simp only [Bool.and_eq_true, decide_eq_true_eq] at hk
    exact lv_astore hx hb e9 hl hk.1 rfl (fun ls' _ => mw_icon_ok hB' hk.2 hret hR hS hcc hss hQ)
  · cases hk
/-- what a row of the table does with an exception at pc -/
def mw_pass (s : State) (args : Array Value) (own : String) (pc ex : Nat) (z : ExceptionTableEntry) : Prop := covers z pc = false ∨ (z.catchType ≠ 0 ∧ ∃ nm : String, (Cond.classLink own z.catchType nm).before args s = true ∧ va_Nc (mw_exn ex) nm s)
theorem mw_hsplit (hts : ∀ w ∈ mw_T, w.before args s = true) (hnc : ∀ e f : Nat, e < 6 → f < 5 → e ≠ f → va_Nc (mw_exn e) (mw_exn f) s) (pc ex : Nat) (hex : ex < 6) : ∀ (tb : List (Nat × Nat × Nat × Nat)) (hh : List (Nat × Nat × Nat × Nat × Nat)), mw_hchk cd tb hh = true →
    match mw_hfind hh pc ex with
    | none => ∀ z ∈ tableOf tb, mw_pass s args cd.1.cls pc ex z
    | some k => cd.2.2.2.1 = some .int ∧ ∃ pre x suf, tableOf tb = pre ++ x :: suf ∧ (∀ z ∈ pre, mw_pass s args cd.1.cls pc ex z) ∧ covers x pc = true ∧ x.catchType ≠ 0 ∧ (Cond.classLink cd.1.cls x.catchType (mw_exn ex)).before args s = true ∧ Jvm.Cond.castable (mw_exn ex) (mw_exn ex) ∈ mw_tbl ∧ mw_hcode cd.2.1 x.handlerPc cd.2.2.1 k = true
  | [], [], _ => fun z hz => by cases hz
  | [], h :: hs, hc => by cases hc
  | t :: ts, [], hc => by cases hc
  | t :: ts, h :: hs, hc => by
    unfold mw_hchk at hc
    rw [Bool.and_eq_true] at hc
    obtain ⟨h1, h2⟩ := hc
    unfold mw_hok1 at h1
    simp only [Bool.and_eq_true, decide_eq_true_eq] at h1
    obtain ⟨⟨⟨⟨a1, a2, a3, a4, a5, a6⟩, b1, b2⟩, c1⟩, d1⟩ := h1
    have hlink : (Cond.classLink cd.1.cls t.2.2.2 (mw_exn h.2.2.1)).before args s = true := hts _ (List.mem_filter.mpr ⟨b1, b2⟩)
    have ih := mw_hsplit hts hnc pc ex hex ts hs h2
    unfold mw_hfind
    by_cases hm : h.1 ≤ pc ∧ pc < h.2.1 ∧ h.2.2.1 = ex
    · rw [if_pos hm]
      obtain ⟨m1, m2, rfl⟩ := hm
      refine ⟨a6, [], _, tableOf ts, rfl, fun z hz => (by cases hz), ?_, a4, hlink, c1, ?_⟩
      · show (decide (t.1 ≤ pc) && decide (pc < t.2.1)) = true
        rw [a1, a2]
        simp [m1, m2]
      · show mw_hcode cd.2.1 t.2.2.1 cd.2.2.1 h.2.2.2.1 = true
        rw [a3]; exact d1
    · rw [if_neg hm]
      have hp : mw_pass s args cd.1.cls pc ex ⟨t.1, t.2.1, t.2.2.1, t.2.2.2⟩ := by
        by_cases hcv : t.1 ≤ pc ∧ pc < t.2.1
        · refine Or.inr ⟨a4, mw_exn h.2.2.1, hlink, hnc ex h.2.2.1 hex a5 (fun q => hm ⟨by omega, by omega, q.symm⟩)⟩
        · refine Or.inl ?_
          show (decide (t.1 ≤ pc) && decide (pc < t.2.1)) = false
          rw [Bool.and_eq_false_iff, decide_eq_false_iff_not, decide_eq_false_iff_not]
          omega
      revert ih
      cases mw_hfind hs pc ex with
      | none =>
        intro ih z hz
        rcases List.mem_cons.mp hz with rfl | hz
        · exact hp
        · exact ih z hz
      | some k =>
        rintro ⟨q1, pre, x, suf, q2, q3, q4⟩
        refine ⟨q1, ⟨t.1, t.2.1, t.2.2.1, t.2.2.2⟩ :: pre, x, suf, by rw [List.cons_append, ← q2]; rfl, fun z hz => ?_, q4⟩
        rcases List.mem_cons.mp hz with rfl | hz
        · exact hp
        · exact q3 z hz
theorem mw_kx (hB : mw_Bd G p s m args meth cc cd) (het : mw_ET cd cc) {Qr : Option Value → mw_Mem → Prop} {Qx : Nat → mw_Mem → Prop} {ex pc : Nat} {M : mw_Mem} {H : Heap} {locs : List Loc} {cells slots : Nat} {ls : Array Slot} {rest : List Value} {q : Addr} {ce : Cell} {lv : List (Nat × Value)} (hl : lv_has ls cd.2.2.1 lv) (hex : ex < 6) (hR : mw_Rel G M H) (hS : va_S (mw_A G) s.heap H locs) (hcell : H[q]? = some ce) (hv : ce.vm = .none) (hcl : s.vm.findClass (mw_exn ex) = some ce.cls) (hcc : cells ≤ CT) (hss : slots ≤ ST)
    (hQ : match mw_hfind cd.2.2.2.2.2 pc ex with | some k => Qr (some (.int (Int32.ofNat k))) M | none => Qx ex M) :
    vx_W p l e R s m args below meth cc H locs cells slots (vx_MQ below (mw_QC G Qr) (mw_XC G Qx) args s CT ST (mw_A G)) (F0 m pc ls rest) q := by
  have hB' := hB
  obtain ⟨hx, hb, hml, hr, hlk, hown, hnm, hts, hC⟩ := hB
  obtain ⟨tb, htb, het⟩ := het
  have hs := mw_hsplit (cd := cd) hts hC.2.2.2.2.2.2.2.1 pc ex hex tb cd.2.2.2.2.2 htb
  revert hs hQ
  cases mw_hfind cd.2.2.2.2.2 pc ex with
  | none =>
    intro hQ hs
    exact vx_outP hown hlk (fun z hz => hs z (by rw [← het]; exact hz)) hcell hv hcl (fun t ht hA => ⟨⟨ex, M, ⟨rfl, hex⟩, hQ, by rw [ht]; exact hR⟩, hS.F ht⟩) hS.2.2 hcc hss
  | some k =>
    rintro hQ ⟨hret, pre, x, suf, q1, q2, q3, q4, q5, q6, q7⟩
    exact vx_catch hown pre x suf (het.trans q1) q2 q3 q4 q5 (va_Nw.use rfl (hC.2.2.2.2.1 _ (List.mem_filter.mpr ⟨q6, rfl⟩))) hcell hv hcl (mw_hcode_ok hB' q7 hret hl hR hS hcc hss hQ)
theorem mw_thr_ok {d : Nat} (hB : mw_Bd G p s m args meth cc cd) (hst : l.stackTraces = false) (het : ∀ z ∈ cc.exceptionTable.toList, False) (hdep : d + 10 ≤ R.frames ∧ 64 * d + 200 ≤ R.locals) (hroom : CT ≤ R.cells ∧ ST ≤ R.slots ∧ s.heap.size + R.cells ≤ G.1 + 990000) {Qr : Option Value → mw_Mem → Prop} {Qx : Nat → mw_Mem → Prop} {pc : Nat} {ls : List (Option Value)} {st : List Value} {M : mw_Mem} {c sl : Nat} {q : mw_I} (hc : mw_chkI cd.1 cd.2.1 pc q = true) (h2 : mw_isnew q.1 = true) (h3 : q.2.2.1.2.2 = 1) (h4 : 1 ≤ c) (h5 : 6 ≤ sl) (h6 : mw_cats st ≤ 8) (h7 : ∀ n', M.2.2.2.2.2 ≤ n' → Qx q.2.2.1.1 (mw_sN M n')) :
    mw_WF G p l e R s m args below meth cc cd.2.2.1 CT ST (vx_MQ below (mw_QC G Qr) (mw_XC G Qx) args s CT ST (mw_A G)) (pc, ls, st, M, c, sl) := by
  obtain ⟨hx, hb, hml, hr, hlk, hown, hnm, hts, hC⟩ := hB
  intro H locs cells slots lsR hR hS hL hcc hss
  dsimp only at hR hS hL hcc hss ⊢
  obtain ⟨i, len, ⟨r1, r2, r3⟩, ps, y, k⟩ := q
  dsimp only at h3 h7
  subst h3
  cases i with
  | new n =>
    unfold mw_chkI at hc
    simp only [Bool.and_eq_true, decide_eq_true_eq] at hc
    obtain ⟨hd, ⟨⟨⟨⟨⟨c1, c2⟩, c3⟩, c4⟩, c5⟩, rfl, hr6⟩, c7⟩ := hc
    rw [List.all_eq_true] at c7
    have hat : ∀ w ∈ vx_at0 cd.1.cls r2 (mw_exn r1) mw_exs, w.before args s = true := fun w hw => by
      have h9 := c7 w hw
      simp only [Bool.and_eq_true, Bool.or_eq_true, decide_eq_true_eq] at h9
      rcases h9.1.1 with g | g
      · exact hts w (List.mem_filter.mpr ⟨h9.1.2, g⟩)
      · have g9 := hC.2.2.2.2.1 w (List.mem_filter.mpr ⟨h9.1.2, g⟩)
        revert g g9
        cases w <;> intro g g9 <;> first | exact va_Nw.use rfl g9 | exact g9 | cases g
    have hgood : ∀ w ∈ Jvm.Cond.classLink cd.1.cls n (mw_exn r1) :: Jvm.Cond.initialized (mw_exn r1) :: vx_at0 cd.1.cls r2 (mw_exn r1) mw_exs, vx_ot w = true := fun w hw => by
      rcases List.mem_cons.mp hw with rfl | hw
      · unfold vx_ot; rw [mw_T_good _ (mw_wd_in c1), Bool.or_true]
      · rcases List.mem_cons.mp hw with rfl | hw
        · unfold vx_ot; rw [mw_T_good _ (mw_wd_in c2), Bool.or_true]
        · have h9 := c7 w hw
          simp only [Bool.and_eq_true] at h9
          exact h9.2
    have hfit : Bundle.fit (mw_exn r1) = true := by
      rcases (show r1 = 0 ∨ r1 = 1 ∨ r1 = 2 ∨ r1 = 3 ∨ r1 = 4 ∨ r1 = 5 by omega) with rfl | rfl | rfl | rfl | rfl | rfl <;> decide
    have hlen : mw_exs.length = 2 := rfl
    refine vx_throw0 (own := cd.1.cls) (cls := mw_exn r1) (names := mw_exs) hx hb hst hown hfit (by decide) (hts _ (mw_wd_in c1)) (hts _ (mw_wd_in c2)) hat hgood hC.2.2.2.2.2.1 hC.2.2.2.2.2.2.1 hS (hL.2.1.trans hml.symm) (mw_dec_eq hd) (mw_dec_eq c3) (mw_dec_eq c4) (mw_dec_eq c5) (fun z hz => (het z hz).elim) (by rw [hlen]; omega) ?_ (by omega) (by omega) hlk ?_ hS.2.2 (by omega) (by omega)
    · have e9 : ((fun v : Value => v.category) ∘ mw_tr G) = fun v => v.category := funext fun v => mw_tr_cat G v
      rw [List.map_map, e9, hlen]
      have h6' : (st.map fun v => v.category).sum ≤ 8 := h6
      omega
    · intro t hA hz hk
      refine ⟨⟨r1, mw_sN M (t.heap.size - G.1), ⟨rfl, hr6⟩, h7 _ (by have := hR.1; omega), ?_⟩, Nat.le_trans hS.1 hz, fun x h1 h2 => (hk x (Nat.lt_of_lt_of_le h1 hS.1)).trans (hS.2.1 x h1 h2)⟩
      refine ⟨by have := hR.1; show t.heap.size = G.1 + (t.heap.size - G.1); omega, fun a k9 hk9 => ?_⟩
      obtain ⟨u1, u2, u3⟩ := hR.2 a k9 hk9
      exact ⟨u1, u2, (show va_at G.2.1 vwCl (G.1 + a, mw_cell G (mw_sN M (t.heap.size - G.1)) k9.1 k9.2 a) t.heap from by
        rw [show mw_cell G (mw_sN M (t.heap.size - G.1)) k9.1 k9.2 a = mw_cell G M k9.1 k9.2 a from mw_cell_congr rfl rfl rfl rfl]
        exact u3.kept (hk _ u3.lt))⟩
  | _ => cases h2
end
/-- an instruction that calls is three bytes long, but for interfaces -/
theorem mw_inv_len {y : MethodName} {bytes : ByteArray} {pc : Nat} {q : mw_I} (hc : mw_chkI y bytes pc q = true) (hi : mw_isinv q.1 = true) : q.2.1 = 3 := by
  obtain ⟨i, len, ⟨r1, r2, r3⟩, ps, y9, k⟩ := q
  unfold mw_chkI at hc
  simp only [Bool.and_eq_true] at hc
  obtain ⟨-, hc⟩ := hc
  cases i with
  | invokevirtual n =>
    dsimp only at hc
    split at hc
    · simp only [Bool.and_eq_true, decide_eq_true_eq] at hc
      exact hc.1.1.1.1.1.1.1
    · simp only [Bool.and_eq_true, decide_eq_true_eq] at hc
      exact hc.1.1.1.2.1
  | invokestatic n =>
    dsimp only at hc
    split at hc
    · simp only [Bool.and_eq_true, decide_eq_true_eq] at hc
      exact hc.1.1.1.1
    · simp only [Bool.and_eq_true, decide_eq_true_eq] at hc
      exact hc.1.1.1
  | invokespecial n =>
    dsimp only at hc
    split at hc
    · simp only [Bool.and_eq_true, decide_eq_true_eq] at hc
      exact hc.1.1.1
    · simp only [Bool.and_eq_true, decide_eq_true_eq] at hc
      exact hc.1.1.1.1.1
    · simp only [Bool.and_eq_true, decide_eq_true_eq] at hc
      exact hc.1.1.1
  | _ => cases hi
theorem mw_inv_len5 {y : MethodName} {bytes : ByteArray} {pc : Nat} {q : mw_I} (hc : mw_chkI y bytes pc q = true) (hi : mw_isinv q.1 = false) (hx : mw_isinvX q.1 = true) : q.2.1 = 5 := by
  obtain ⟨i, len, ⟨r1, r2, r3⟩, ps, y9, k⟩ := q
  unfold mw_chkI at hc
  simp only [Bool.and_eq_true] at hc
  obtain ⟨-, hc⟩ := hc
  cases i with
  | invokeinterface n m9 =>
    simp only [Bool.and_eq_true, decide_eq_true_eq] at hc
    exact hc.1.1.1.1
  | _ => first | exact Bool.noConfusion hx | exact Bool.noConfusion hi
theorem mw_sub_Rel {G : mw_G} {N M : mw_Mem} {H : Heap} (hs : mw_sub 0 N M) (hR : mw_Rel G M H) : mw_Rel G N H := by
  have hu : ∀ r : Option Nat, r.map (mw_up 0) = r := fun r => by
    cases r with
    | none => rfl
    | some a =>
      have : mw_up 0 a = a := by
        unfold mw_up
        split
        · rw [if_pos (by omega)]; omega
        · split <;> omega
      rw [Option.map_some, this]
  refine ⟨by rw [hR.1, hs.1]; omega, fun a q hq => ?_⟩
  obtain ⟨s1, s2, s3, s4, s5, s6⟩ := hs.2 a q hq
  obtain ⟨r1, r2, r3⟩ := hR.2 _ q s1
  have s6' : M.2.2.2.1 a = N.2.2.2.1 a := by
    funext k
    have := s6 k
    rw [hu] at this
    exact this
  have e9 : mw_cell G M q.1 q.2 a = mw_cell G N q.1 q.2 a := mw_cell_congr (M := N) (M' := M) s3 s4 s5 s6'
  exact ⟨r1, r2, by rw [← e9]; exact r3⟩
theorem mw_sound {l : Launch} (hst : l.stackTraces = false) {sc : Nat × (Nat → Int32)} {cd : mw_CD} {d : Nat} {f : mw_Fr} {Qr : Option Value → mw_Mem → Prop} {Qx : Nat → mw_Mem → Prop} (h : mw_Wp sc mw_Good cd d f Qr Qx) : mw_RA sc l cd d f Qr Qx := by
  refine h (mw_RA sc l) ?_
  clear h
  intro cd d f Qr Qx h G hsc hG p e R s m args below meth cc CT ST hB het hdep hroom
  obtain ⟨pc, ls, st, M, c, sl⟩ := f
  subst hsc
  rcases h with h | h | h | h | h | h | h
  · unfold mw_stp at h
    dsimp only at h
    split at h
    · rename_i q hq
      exact mw_ins_sound hB hroom ⟨by omega, by omega⟩ (mw_lk_chk hG hq) (mw_app_mono (fun g k => k G rfl hG p e R s m args below meth cc CT ST hB het hdep hroom) h)
    · exact h.elim
  · obtain ⟨q, cd', d', mc, ms, Q1, X1, h1, h2, h3, h4, h5, h6, h7, h8, h9, h10, h11, a1, a2, a3⟩ := h
    dsimp only at h1 h7 h8 h9 h10 h11 a1 a2 a3
    subst h6
    intro H locs cells slots lsR hR hS hL hcc hss
    dsimp only at hR hS hL hcc hss ⊢
    refine mw_wb (fun hbd => ?_)
    obtain ⟨a, hr⟩ := mw_call_run (l := l) (e := e) (below := below) (d := d' + 1) hB ⟨by omega, hdep.1, hdep.2⟩ hroom (mw_lk_chk hG h1) h2 h3 h4 h5 h7 h8 h9 h10 h11 (fun tb htb => mw_met (l := l) (ms := ms) h5 htb (As := (st.take q.2.2.1.1).reverse) (fun v hv => mw_all1 h11.2.1 v (List.mem_reverse.mp hv)) (by rw [List.length_reverse, List.length_take]; have := h11.2.2.1; omega) (a1 G rfl)) hR hS hL hcc hss hbd
    refine mw_callW hr hS (fun v M' H1 locs1 hq hR1 hS1 => ?_) (fun ex M' H1 locs1 q9 ce hex hx1 hR1 hS1 hce hcv hcl => ?_)
    · have hh := a2 v M' hq G rfl hG p e R s m args below meth cc CT ST hB het hdep hroom H1 locs1 (cells + mc) (slots + ms) lsR hR1 hS1 hL (by dsimp only; omega) (by dsimp only; omega)
      dsimp only at hh
      rw [show ((v.map (mw_tr G)).toList ++ (st.drop q.2.2.1.1).map (mw_tr G)) = (v.toList ++ st.drop q.2.2.1.1).map (mw_tr G) by cases v <;> simp]
      exact hh
    · exact mw_kx hB het hL.2 hex hR1 hS1 hce hcv hcl (by omega) (by omega) (a3 ex M' hx1)
  · obtain ⟨q, h1, h2, h3, h4, h5, h6, h8, h7⟩ := h
    dsimp only at h1 h4 h5 h6 h7
    have het' : ∀ z ∈ cc.exceptionTable.toList, False := by
      obtain ⟨tb, htb, het⟩ := het
      cases hz : cd.2.2.2.2.2 with
      | cons a b => rw [hz] at h8; cases h8
      | nil =>
        rw [hz] at htb
        cases tb with
        | cons a b => cases htb
        | nil => intro z hz9; rw [het] at hz9; cases hz9
    exact mw_thr_ok (d := d) hB hst het' hdep hroom (mw_lk_chk hG h1) h2 h3 h4 h5 h6 h7
  · obtain ⟨d', ls', c', s', h1, h2, h3, h4, h5, a1⟩ := h
    dsimp only at h2 h3 h4 h5 a1
    intro H locs cells slots lsR hR hS hL hcc hss
    dsimp only at hR hS hL hcc hss ⊢
    exact W.widen (k := cells + (c - c')) (n := slots + (sl - s')) (by omega) (by omega) (a1 G rfl hG p e R s m args below meth cc CT ST hB het ⟨by omega, by omega⟩ hroom H locs (cells + (c - c')) (slots + (sl - s')) lsR hR hS (mw_LR_sub hL h2 h3) (by dsimp only; omega) (by dsimp only; omega))
  · intro H locs cells slots lsR hR hS hL hcc hss
    refine mw_wb (fun hbd => ?_)
    have h1 := hR.1
    exact h (by dsimp only at h1 hcc ⊢; omega) G rfl hG p e R s m args below meth cc CT ST hB het hdep hroom H locs cells slots lsR hR hS hL hcc hss
  · obtain ⟨q, cd', d', mc, ms, Q1, X1, off, N, As, h1, h2, h3, h4, h5, h6, h7, h8, h9, h10, h11, h12, h13, a1, a2, a3⟩ := h
    dsimp only at h1 h7 h8 h9 h10 h11 h12 h13 a1 a2 a3
    subst h6
    intro H locs cells slots lsR hR hS hL hcc hss
    dsimp only at hR hS hL hcc hss ⊢
    refine mw_wb (fun hbd => ?_)
    have hcat : ∀ v ∈ As, v.category = 1 := fun v hv => by
      have h9 := mw_all1 h11.2.1 (mw_upV off v) (List.mem_reverse.mp (by rw [h12]; exact List.mem_map_of_mem hv))
      cases v <;> first | exact h9 | rfl
    have hlen : As.length ≤ cd'.2.2.1 := by
      have := congrArg List.length h12
      rw [List.length_reverse, List.length_take, List.length_map] at this
      have := h11.2.2.1
      omega
    have hMM : ∀ tb, mw_hchk cd' tb cd'.2.2.2.2.2 = true → vx_Met l cd'.1 (mw_cw cd' tb :: mw_T) (mw_room (d' + 1 - 1) mc ms) (mw_Pc G (st.take q.2.2.1.1).reverse M mc) (mw_QC G (mw_jQ off M N Q1)) (mw_XC G (mw_jX off M N X1)) mc ms (mw_A G) := fun tb htb => by
      rw [h12]
      exact mw_metX (l := l) (ms := ms) rfl h5 htb h13 hcat hlen a1
    have hgo : ∀ (v : Option Value) (M' : mw_Mem) (H1 : Heap) (locs1 : List Loc), mw_jQ off M N Q1 v M' → mw_Rel G M' H1 → va_S (mw_A G) s.heap H1 locs1 → W p l e R s m args below meth cc H1 locs1 (cells + mc) (slots + ms) (vx_MQ below (mw_QC G Qr) (mw_XC G Qx) args s CT ST (mw_A G)) (F0 m (pc + q.2.1) lsR ((v.map (mw_tr G)).toList ++ (st.drop q.2.2.1.1).map (mw_tr G))) := fun v M' H1 locs1 ⟨w, K, ev, eM, hq⟩ hR1 hS1 => by
      subst ev eM
      have hh := a2 w K hq G rfl hG p e R s m args below meth cc CT ST hB het hdep hroom H1 locs1 (cells + mc) (slots + ms) lsR hR1 hS1 hL (by dsimp only; omega) (by dsimp only; omega)
      dsimp only at hh
      rw [show (((w.map (mw_upV off)).map (mw_tr G)).toList ++ (st.drop q.2.2.1.1).map (mw_tr G)) = ((w.map (mw_upV off)).toList ++ st.drop q.2.2.1.1).map (mw_tr G) by cases w <;> simp]
      exact hh
    have hgx : ∀ (ex : Nat) (M' : mw_Mem) (H1 : Heap) (locs1 : List Loc) (q9 : Addr) (ce : Cell), ex < 6 → mw_jX off M N X1 ex M' → mw_Rel G M' H1 → va_S (mw_A G) s.heap H1 locs1 → H1[q9]? = some ce → ce.vm = .none → s.vm.findClass (mw_exn ex) = some ce.cls → vx_W p l e R s m args below meth cc H1 locs1 (cells + mc) (slots + ms) (vx_MQ below (mw_QC G Qr) (mw_XC G Qx) args s CT ST (mw_A G)) (F0 m pc lsR ((st.drop q.2.2.1.1).map (mw_tr G))) q9 := fun ex M' H1 locs1 q9 ce hex ⟨K, eM, hx1⟩ hR1 hS1 hce hcv hcl => by
      subst eM
      exact mw_kx hB het hL.2 hex hR1 hS1 hce hcv hcl (by omega) (by omega) (a3 ex K hx1)
    cases hi : mw_isinv q.1 with
    | true =>
      obtain ⟨a, hr⟩ := mw_call_run (l := l) (e := e) (below := below) (d := d' + 1) hB ⟨by omega, hdep.1, hdep.2⟩ hroom (mw_lk_chk hG h1) hi h3 h4 h5 h7 h8 h9 h10 h11 hMM hR hS hL hcc hss hbd
      rw [mw_inv_len (mw_lk_chk hG h1) hi] at hgo
      exact mw_callW hr hS hgo hgx
    | false =>
      obtain ⟨a, hr⟩ := mw_call_runF (l := l) (e := e) (below := below) (d := d' + 1) hB ⟨by omega, hdep.1, hdep.2⟩ hroom (mw_lk_chk hG h1) hi h2 h3 h4 h5 h7 h8 h9 h10 h11 hMM hR hS hL hcc hss hbd
      rw [mw_inv_len5 (mw_lk_chk hG h1) hi h2] at hgo
      exact mw_callW5 hr hS hgo hgx
  · obtain ⟨N, h1, a1⟩ := h
    intro H locs cells slots lsR hR hS hL hcc hss
    exact a1 G rfl hG p e R s m args below meth cc CT ST hB het hdep hroom H locs cells slots lsR (mw_sub_Rel h1 hR) hS hL hcc hss
