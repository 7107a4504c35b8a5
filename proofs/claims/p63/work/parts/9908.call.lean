/-! calls and throws -/
theorem mw_goodIn {ws : List Jvm.Cond} (h : ∀ w ∈ ws, w ∈ mw_T) : GoodIn mw_T ws := fun w hw => ⟨h w hw, good_of_word (mw_T_good w (h w hw))⟩
theorem mw_split {st : List Value} {n : Nat} {v : Value} (hn : 0 < n) (h : st[n - 1]? = some v) : (st.take n).reverse = v :: (st.take (n - 1)).reverse ∧ st = st.take (n - 1) ++ v :: st.drop n := by
  obtain ⟨k, rfl⟩ : ∃ k, n = k + 1 := ⟨n - 1, by omega⟩
  rw [show k + 1 - 1 = k by omega] at h ⊢
  have hlt := (List.getElem?_eq_some_iff.mp h).1
  have he := (List.getElem?_eq_some_iff.mp h).2
  refine ⟨?_, ?_⟩
  · rw [List.take_succ, h]
    simp
  · rw [← he]
    simp
theorem mw_all1 {l : List Value} (h : l.all (fun v => decide (v.category = 1)) = true) : ∀ v ∈ l, v.category = 1 := fun v hv => by
  rw [List.all_eq_true] at h
  exact of_decide_eq_true (h v hv)
section
variable {G : mw_G} {p : Program} {l : Launch} {e : Env} {R : Room} {s : State} {m : MethodId} {args : Array Value} {below : List Frame} {meth : Method} {cc : Code} {cd : mw_CD} {CT ST : Nat} {Q : State → Prop}
theorem mw_call_pre {As : List Value} {M : mw_Mem} {H : Heap} {locs : List Loc} {mc cells : Nat} (hC : mw_Ctx G s) (hR : mw_Rel G M H) (hS : va_S (mw_A G) s.heap H locs) (hsz : H.size + mc ≤ G.1 + 990000) : ∀ U : State, U.heap = H → s.WarmedH U.vm → mw_Pc G As M mc (As.map (mw_tr G)).toArray U := by
  intro U hU hW
  subst hU
  exact ⟨rfl, mw_Ctx_moved hW hS.2.1 hS.1 hC, hR, hsz⟩
theorem mw_call_run {d : Nat} (hB : mw_Bd G p s m args meth cc cd) (hdep : 0 < d ∧ d + 10 ≤ R.frames ∧ 64 * d + 200 ≤ R.locals) (hroom : CT ≤ R.cells ∧ ST ≤ R.slots ∧ s.heap.size + R.cells ≤ G.1 + 990000) {q : mw_I} {pc : Nat} {ls : List (Option Value)} {st : List Value} {M : mw_Mem} {c sl : Nat} (hc : mw_chkI cd.1 cd.2.1 pc q = true) (hinv : mw_isinv q.1 = true) (h3 : q.2.2.1.2.1 < 8) {cd' : mw_CD} {mc ms : Nat} {QC : Array Value → State → Outcome → State → Prop} {XC : String → State → State → Prop} (h4 : q.2.2.2.2.1 = cd'.1) (h5 : mw_Good cd') (h7 : mc ≤ c) (h8 : ms ≤ sl) (h9 : q.2.2.1.1 ≤ st.length) (h10 : mw_recv q st M) (h11 : mw_cats (st.drop q.2.2.1.1) ≤ 8 ∧ (st.take q.2.2.1.1).all (fun v => decide (v.category = 1)) = true ∧ q.2.2.1.1 ≤ cd'.2.2.1 ∧ ((q.2.2.1.2.1 = 5 ∧ cd'.2.2.2.2.2.isEmpty = false) ∨ (¬ q.2.2.1.2.1 = 5 ∧ cd'.2.2.2.2.2.isEmpty = true)))
    (hMM : ∀ tb, mw_hchk cd' tb cd'.2.2.2.2.2 = true → vx_Met l cd'.1 (mw_cw cd' tb :: mw_T) (mw_room (d - 1) mc ms) (mw_Pc G (st.take q.2.2.1.1).reverse M mc) QC XC mc ms (mw_A G))
    {H : Heap} {locs : List Loc} {cells slots : Nat} {lsR : Array Slot} (hR : mw_Rel G M H) (hS : va_S (mw_A G) s.heap H locs) (hL : mw_LR G cd.2.2.1 ls lsR) (hcc : cells + c = CT) (hss : slots + sl = ST) (hbd : H.size ≤ s.heap.size + cells) :
    ∃ a, vx_Run p l e R s m args below meth cc H locs cells slots mc ms (F0 m pc lsR (st.map (mw_tr G))) ((st.drop q.2.2.1.1).map (mw_tr G)) (QC a) XC (mw_A G) := by
  obtain ⟨hx, hb, hml, hr, hlk, hown, hnm, hts, hC⟩ := hB
  obtain ⟨k1, k2, k3, k4⟩ := h11
  have hcat := mw_all1 k2
  obtain ⟨hchk', g1, g2, g3, g4, g7, tb, htb, g6⟩ := id h5
  have hM := hMM tb htb
  have hpre := mw_call_pre (As := (st.take q.2.2.1.1).reverse) (mc := mc) (cells := cells) hC hR hS (by omega)
  have hfix : CallFix p m cc cd.2.1 cd.2.2.1 s args mw_T cd.1.cls := ⟨hx, hb, hml, hown, hts⟩
  have hws : ∀ w ∈ (mw_cw cd' tb :: mw_T), w ∈ mw_T := fun w hw => (List.mem_cons.mp hw).elim (fun e9 => by rw [e9]; exact g6) id
  have hroomC : (mw_room (d - 1) mc ms).frames + 1 ≤ R.frames ∧ 8 + (cd'.2.2.1 + 11) + (mw_room (d - 1) mc ms).locals ≤ R.locals := by
    show d - 1 + 10 + 1 ≤ R.frames ∧ 8 + (cd'.2.2.1 + 11) + (64 * (d - 1) + 200) ≤ R.locals
    omega
  have hsize : (F0 m pc lsR (st.map (mw_tr G))).locals.size = cd.2.2.1 := hL.2.1
  have hcats : (((st.drop q.2.2.1.1).map (mw_tr G)).map fun v => v.category).sum ≤ 8 := by
    rw [List.map_map]
    have e9 : ((fun v : Value => v.category) ∘ mw_tr G) = fun v => v.category := funext fun v => mw_tr_cat G v
    rw [e9]
    exact k1
  have hW := lv_room (m := m) (pc := pc) (ls := lsR) (rest := st.map (mw_tr G)) hcats
  have hf : cells + mc ≤ R.cells ∧ slots + ms ≤ R.slots := by omega
  obtain ⟨i, len, ⟨r1, r2, r3⟩, ps, y, k⟩ := q
  dsimp only at h3 h4 h9 k1 k2 k3 k4 hM hpre hcats hW hcat ⊢
  subst h4
  unfold mw_chkI at hc
  simp only [Bool.and_eq_true, decide_eq_true_eq] at hc
  obtain ⟨hd, hc⟩ := hc
  have hd := mw_dec_eq hd
  try dsimp only at hd
  cases i with
  | invokevirtual n =>
    dsimp only at hc
    split at hc
    · simp only [Bool.and_eq_true, decide_eq_true_eq] at hc
      obtain ⟨⟨⟨⟨⟨⟨⟨rfl, rfl, rfl, hy⟩, c1⟩, c2⟩, c3⟩, c4⟩, c5⟩, c6⟩ := hc
      have htn : tb = [] := by
        rcases k4 with k4 | k4
        · exact absurd k4.1 (by omega)
        · cases tb with
          | nil => rfl
          | cons t ts =>
            exfalso
            cases hz : cd'.2.2.2.2.2 with
            | nil => rw [hz] at htb; cases htb
            | cons h hs => rw [hz] at k4; cases k4.2
      subst htn
      obtain ⟨a, n9, ha, hka⟩ : ∃ a n9, st[1 - 1]? = some (.ref a) ∧ M.2.2.2.2.1 a = some (1, n9) := by
        rcases h10 with ⟨a, n9, ha, hka⟩ | ⟨hz, -⟩ | ⟨hz, -⟩
        · exact ⟨a, n9, ha, hka⟩
        · exact absurd (show (1 : Nat) = 0 from hz) (by decide)
        · exact absurd (show (1 : Nat) = 18 from hz) (by decide)
      have hrr : vwCl[1]? = some (RJ4, TJ4, 4) := rfl
      obtain ⟨e3, hat⟩ := mw_arr hR hka
      rw [mw_cell_obj hrr] at hat
      obtain ⟨r', hr', cellB, q1, q2, q3, -⟩ := hat
      have hfc : s.vm.findClass "java/lang/StringBuilder" = some cellB.cls := by
        rw [q2]
        exact (hC.1.1 1 _ hrr).2.1
      obtain ⟨e1, e2⟩ := mw_split (by decide) ha
      rw [e1] at hpre hM
      have hT : GoodIn mw_T (va_wsO cd.1.cls n "java/lang/StringBuilder" "java/lang/AbstractStringBuilder" ⟨"java/lang/AbstractStringBuilder", "length", "()I"⟩ cd'.1 (mw_cw cd' [] :: mw_T)) := mw_goodIn (fun w hw => by
        unfold va_wsO at hw
        rcases List.mem_append.mp hw with hw | hw
        · simp only [List.mem_cons, List.not_mem_nil, or_false] at hw
          rcases hw with rfl | rfl | rfl | rfl | rfl | rfl
          · exact mw_wd_in c1
          · exact mw_wd_in c2
          · exact mw_wd_in c3
          · rw [hy]
            exact mw_wd_in c4
          · rw [hy]
            exact mw_wd_in c5
          · exact g3
        · exact hws w hw)
      refine ⟨_, vx_runU (x := ⟨"java/lang/AbstractStringBuilder", "length", "()I"⟩) (C := "java/lang/StringBuilder") (owner := "java/lang/AbstractStringBuilder") (As := (st.take (1 - 1)).reverse.map (mw_tr G)) (b := mw_rho G a) hfix hM (va_cwO 0 hts hT rfl rfl rfl (mw_wd_in c6) ⟨by decide, by decide, by decide +kernel⟩ hroomC) ⟨mw_Pc_blind, ⟨cellB, by rw [← e3]; exact q1, by rw [q3]; rfl, hfc⟩, hpre⟩ rfl (by simp) hsize ?_ hW hd hf⟩
      show st.map (mw_tr G) = ((st.take (1 - 1)).reverse.map (mw_tr G)).reverse ++ .ref (mw_rho G a) :: (st.drop 1).map (mw_tr G)
      conv => lhs; rw [e2]
      simp [List.map_append, mw_tr]
    · simp only [Bool.and_eq_true, decide_eq_true_eq] at hc
      obtain ⟨⟨⟨⟨rfl, rfl, hn0, hpar⟩, c1⟩, c2⟩, c3⟩ := hc
      have htn : tb = [] := by
        rcases k4 with k4 | k4
        · exact absurd k4.1 (by omega)
        · cases tb with
          | nil => rfl
          | cons t ts =>
            exfalso
            cases hz : cd'.2.2.2.2.2 with
            | nil => rw [hz] at htb; cases htb
            | cons h hs => rw [hz] at k4; cases k4.2
      subst htn
      obtain ⟨rr, hrr, c3⟩ : ∃ rr, vwCl[r3]? = some rr ∧ mw_wd (mw_pl ps 2) (.selects rr.1 cd'.1 cd'.1) = true := by
        cases hz : vwCl[r3]? with
        | none => rw [hz] at c3; cases c3
        | some rr => rw [hz] at c3; exact ⟨rr, rfl, c3⟩
      obtain ⟨a, ha, cellB, q1, q3, hfc⟩ : ∃ a, st[r1 - 1]? = some (.ref a) ∧ ∃ cellB : Cell, H[mw_rho G a]? = some cellB ∧ cellB.vm.isStatics = false ∧ s.vm.findClass rr.1 = some cellB.cls := by
        rcases h10 with ⟨a, n9, ha, hka⟩ | ⟨hz, a, ha, z1, z2⟩ | ⟨hz, a, ha, z12⟩
        · dsimp only at ha hka
          obtain ⟨e3, hat⟩ := mw_arr hR hka
          rw [mw_cell_obj hrr] at hat
          obtain ⟨r', hr', cellB, q1, q2, q3, -⟩ := hat
          exact ⟨a, ha, cellB, by rw [← e3]; exact q1, by rw [q3]; rfl, by rw [(hC.1.1 r3 rr hrr).2.1, q2]⟩
        · dsimp only at ha hz
          subst hz
          obtain rfl : (RJ0, TJ0, 4) = rr := Option.some.inj hrr
          obtain ⟨i, hi, e4, -⟩ := mw_o10 ⟨z1, z2⟩
          obtain ⟨cellB, q1, q2, q3⟩ := vk_recv hC.2.1.2.2.2.2.2.2.2.1 (i := i) hi hS
          rw [← e4] at q1
          exact ⟨_, ha, cellB, q1, q2, q3⟩
        · dsimp only at ha hz
          subst hz
          obtain rfl : (RJ6, TJ6, 1) = rr := Option.some.inj hrr
          obtain ⟨k9, hk9, rfl⟩ := mw_o500 z12
          obtain ⟨cellB, q1, q2, q3, -⟩ := (hC.2.2.2.2.2.2.2.2.2.2.2.2.1.1 k9 hk9).kept hS.2.1
          exact ⟨_, ha, cellB, q1, q2, q3⟩
      obtain ⟨e1, e2⟩ := mw_split hn0 ha
      rw [e1] at hpre hM
      refine ⟨_, vx_runV (As := (st.take (r1 - 1)).reverse.map (mw_tr G)) (b := mw_rho G a) hfix hM ⟨callB_of (r1 - 1) hts (mw_goodIn hws) rfl rfl rfl (hts _ g3) (hts _ (mw_wd_in c1)) ⟨g4.1, g4.2, hpar⟩ hroomC, hts _ (mw_wd_in c2), hts _ (mw_wd_in c3)⟩ ⟨mw_Pc_blind, ⟨cellB, q1, q3, hfc⟩, hpre⟩ rfl (by simp; omega) hsize ?_ hW hd hf⟩
      show st.map (mw_tr G) = ((st.take (r1 - 1)).reverse.map (mw_tr G)).reverse ++ .ref (mw_rho G a) :: (st.drop r1).map (mw_tr G)
      conv => lhs; rw [e2]
      simp [List.map_append, mw_tr]
  | invokespecial n =>
    dsimp only at hc
    split at hc
    · exfalso; omega
    · simp only [Bool.and_eq_true, decide_eq_true_eq] at hc
      obtain ⟨⟨⟨⟨⟨rfl, hn0, hnm9, hcls, hpar⟩, c1⟩, c2⟩, c3⟩, c4⟩ := hc
      have htn : tb = [] := by
        rcases k4 with k4 | k4
        · exact absurd k4.1 (by omega)
        · cases tb with
          | nil => rfl
          | cons t ts =>
            exfalso
            cases hz : cd'.2.2.2.2.2 with
            | nil => rw [hz] at htb; cases htb
            | cons h hs => rw [hz] at k4; cases k4.2
      subst htn
      obtain ⟨a, ha, hk9⟩ := h10
      dsimp only at ha hk9
      obtain ⟨n9, hka⟩ := hk9 rfl
      obtain ⟨rr, hrr⟩ := Option.isSome_iff_exists.mp hcls
      obtain ⟨e3, hat⟩ := mw_arr hR hka
      rw [mw_cell_obj hrr] at hat
      obtain ⟨r', hr', cellB, q1, q2, q3, -⟩ := hat
      obtain ⟨-, hfc, kC, hkC, hkind⟩ := hC.1.1 r3 rr hrr
      obtain ⟨e1, e2⟩ := mw_split hn0 ha
      have hT : GoodIn mw_T (va_wsSU cd.1.cls n cd'.1 (mw_cw cd' [] :: mw_T)) := mw_goodIn (fun w hw => by
        unfold va_wsSU at hw
        rcases List.mem_append.mp hw with hw | hw
        · simp only [List.mem_cons, List.not_mem_nil, or_false] at hw
          rcases hw with rfl | rfl | rfl | rfl | rfl
          · exact mw_wd_in c1
          · exact mw_wd_in c3
          · exact mw_wd_in c4
          · exact mw_wd_in c2
          · exact g3
        · exact hws w hw)
      rw [e1] at hpre hM
      refine ⟨_, vx_runSU (C := rr.1) (As := (st.take (r1 - 1)).reverse.map (mw_tr G)) (b := mw_rho G a) ⟨hfc, kC, hkC, hkind⟩ hfix hM (va_cwSU (r1 - 1) hts hT rfl rfl rfl ⟨hnm9, hpar⟩ hroomC) ⟨mw_Pc_blind, ⟨cellB, by rw [← e3]; exact q1, by rw [q3]; rfl, by rw [hfc, q2]⟩, hpre⟩ rfl (by simp; omega) hsize ?_ hW hd hf⟩
      show st.map (mw_tr G) = ((st.take (r1 - 1)).reverse.map (mw_tr G)).reverse ++ .ref (mw_rho G a) :: (st.drop r1).map (mw_tr G)
      conv => lhs; rw [e2]
      simp [List.map_append, mw_tr]
    simp only [Bool.and_eq_true, decide_eq_true_eq] at hc
    obtain ⟨⟨⟨rfl, hn0, hnm9, hpar⟩, c2⟩, c3⟩ := hc
    obtain ⟨a, ha, -⟩ := h10
    dsimp only at ha
    obtain ⟨e1, e2⟩ := mw_split hn0 ha
    rw [e1] at hpre hM
    have hst : st.map (mw_tr G) = ((st.take (r1 - 1)).reverse.map (mw_tr G)).reverse ++ .ref (mw_rho G a) :: (st.drop r1).map (mw_tr G) := by
      conv => lhs; rw [e2]
      simp [List.map_append, mw_tr]
    have hret : cd'.2.2.2.1 = none := g7 hnm9
    split at c3
    · have htn : tb = [] := by
        rcases k4 with k4 | k4
        · exact absurd k4.1 (by omega)
        · cases tb with
          | nil => rfl
          | cons t ts =>
            exfalso
            cases hz : cd'.2.2.2.2.2 with
            | nil => rw [hz] at htb; cases htb
            | cons h hs => rw [hz] at k4; cases k4.2
      subst htn
      unfold mw_cw at hM hws g6
      rw [hret] at hM hws
      exact ⟨_, vx_runI (As := (st.take (r1 - 1)).reverse.map (mw_tr G)) (b := mw_rho G a) hfix hM (cwI (r1 - 1) hts (mw_goodIn hws) rfl rfl rfl (hts _ g3) (hts _ (mw_wd_in c3)) (hts _ (mw_wd_in c2)) hnm9 ⟨g4.1, g4.2, hpar⟩ hroomC) ⟨mw_Pc_blind, hpre⟩ rfl (by simp; omega) hsize hst hW hd hf⟩
    · have htn : tb = [] := by
        rcases k4 with k4 | k4
        · exact absurd k4.1 (by omega)
        · cases tb with
          | nil => rfl
          | cons t ts =>
            exfalso
            cases hz : cd'.2.2.2.2.2 with
            | nil => rw [hz] at htb; cases htb
            | cons h hs => rw [hz] at k4; cases k4.2
      subst htn
      unfold mw_cw at hM hws g6
      rw [hret] at hM hws
      exact ⟨_, vx_runIN (As := (st.take (r1 - 1)).reverse.map (mw_tr G)) (b := mw_rho G a) hfix hM ⟨va_cnB (r1 - 1) hts (mw_goodIn hws) rfl rfl rfl (hC.2.2.2.2.1 _ (mw_wn_in c3)) (hts _ g3) ⟨g4.1, g4.2, hpar⟩ hroomC, hnm9, hts _ (mw_wd_in c2)⟩ ⟨mw_Pc_blind, hpre⟩ rfl (by simp; omega) hsize hst hW hd hf⟩
    · cases c3
  | invokestatic n =>
    dsimp only at hc
    split at hc
    · exfalso; omega
    simp only [Bool.and_eq_true, decide_eq_true_eq] at hc
    obtain ⟨⟨⟨rfl, hpar⟩, c2⟩, c3⟩ := hc
    have hst : st.map (mw_tr G) = ((st.take r1).reverse.map (mw_tr G)).reverse ++ (st.drop r1).map (mw_tr G) := by
      conv => lhs; rw [← List.take_append_drop r1 st]
      simp [List.map_append]
    split at c3
    · have htn : tb = [] := by
        rcases k4 with k4 | k4
        · exact absurd k4.1 (by omega)
        · cases tb with
          | nil => rfl
          | cons t ts =>
            exfalso
            cases hz : cd'.2.2.2.2.2 with
            | nil => rw [hz] at htb; cases htb
            | cons h hs => rw [hz] at k4; cases k4.2
      subst htn
      have hT : GoodIn mw_T (va_wsS cd.1.cls n cd'.1 (mw_cw cd' [] :: mw_T)) := mw_goodIn (fun w hw => by
        unfold va_wsS at hw
        rcases List.mem_append.mp hw with hw | hw
        · simp only [List.mem_cons, List.not_mem_nil, or_false] at hw
          rcases hw with rfl | rfl | rfl
          · exact mw_wd_in c3
          · exact mw_wd_in c2
          · exact g3
        · exact hws w hw)
      exact ⟨_, vx_runS (As := (st.take r1).reverse.map (mw_tr G)) hfix hM (va_cwS r1 hts hT rfl rfl rfl ⟨g4.1, g4.2, hpar⟩ hroomC) ⟨mw_Pc_blind, hpre⟩ rfl (by simp; omega) hsize hst hW hd hf⟩
    · have htn : ∃ t ts, tb = t :: ts := by
        rcases k4 with k4 | k4
        · cases tb with
          | cons t ts => exact ⟨t, ts, rfl⟩
          | nil =>
            exfalso
            cases hz : cd'.2.2.2.2.2 with
            | nil => rw [hz] at k4; cases k4.2
            | cons h hs => rw [hz] at htb; cases htb
        · exact absurd rfl k4.1
      obtain ⟨t9, ts9, rfl⟩ := htn
      have hT : GoodIn mw_T (va_wsS cd.1.cls n cd'.1 (mw_cw cd' (t9 :: ts9) :: mw_T)) := mw_goodIn (fun w hw => by
        unfold va_wsS at hw
        rcases List.mem_append.mp hw with hw | hw
        · simp only [List.mem_cons, List.not_mem_nil, or_false] at hw
          rcases hw with rfl | rfl | rfl
          · exact mw_wd_in c3
          · exact mw_wd_in c2
          · exact g3
        · exact hws w hw)
      exact ⟨_, vx_runSX (hh := t9 :: ts9) (As := (st.take r1).reverse.map (mw_tr G)) hfix hM (vx_cwSW r1 hts hT rfl rfl rfl ⟨g4.1, g4.2, hpar⟩ hroomC) ⟨mw_Pc_blind, hpre⟩ rfl (by simp; omega) hsize hst hW hd hf⟩
    · have htn : tb = [] := by
        rcases k4 with k4 | k4
        · exact absurd k4.1 (by omega)
        · cases tb with
          | nil => rfl
          | cons t ts =>
            exfalso
            cases hz : cd'.2.2.2.2.2 with
            | nil => rw [hz] at htb; cases htb
            | cons h hs => rw [hz] at k4; cases k4.2
      subst htn
      exact ⟨_, vx_runSN (As := (st.take r1).reverse.map (mw_tr G)) hfix hM ⟨va_cnB r1 hts (mw_goodIn hws) rfl rfl rfl (hC.2.2.2.2.1 _ (mw_wn_in c3)) (hts _ g3) ⟨g4.1, g4.2, hpar⟩ hroomC, hts _ (mw_wd_in c2), trivial⟩ ⟨mw_Pc_blind, hpre⟩ rfl (by simp; omega) hsize hst hW hd hf⟩
    · cases c3
  | _ => cases hinv
theorem mw_call_runF {d : Nat} (hB : mw_Bd G p s m args meth cc cd) (hdep : 0 < d ∧ d + 10 ≤ R.frames ∧ 64 * d + 200 ≤ R.locals) (hroom : CT ≤ R.cells ∧ ST ≤ R.slots ∧ s.heap.size + R.cells ≤ G.1 + 990000) {q : mw_I} {pc : Nat} {ls : List (Option Value)} {st : List Value} {M : mw_Mem} {c sl : Nat} (hc : mw_chkI cd.1 cd.2.1 pc q = true) (hinv : mw_isinv q.1 = false) (hinvX : mw_isinvX q.1 = true) (h3 : q.2.2.1.2.1 < 8) {cd' : mw_CD} {mc ms : Nat} {QC : Array Value → State → Outcome → State → Prop} {XC : String → State → State → Prop} (h4 : q.2.2.2.2.1 = cd'.1) (h5 : mw_Good cd') (h7 : mc ≤ c) (h8 : ms ≤ sl) (h9 : q.2.2.1.1 ≤ st.length) (h10 : mw_recv q st M) (h11 : mw_cats (st.drop q.2.2.1.1) ≤ 8 ∧ (st.take q.2.2.1.1).all (fun v => decide (v.category = 1)) = true ∧ q.2.2.1.1 ≤ cd'.2.2.1 ∧ ((q.2.2.1.2.1 = 5 ∧ cd'.2.2.2.2.2.isEmpty = false) ∨ (¬ q.2.2.1.2.1 = 5 ∧ cd'.2.2.2.2.2.isEmpty = true)))
    (hMM : ∀ tb, mw_hchk cd' tb cd'.2.2.2.2.2 = true → vx_Met l cd'.1 (mw_cw cd' tb :: mw_T) (mw_room (d - 1) mc ms) (mw_Pc G (st.take q.2.2.1.1).reverse M mc) QC XC mc ms (mw_A G))
    {H : Heap} {locs : List Loc} {cells slots : Nat} {lsR : Array Slot} (hR : mw_Rel G M H) (hS : va_S (mw_A G) s.heap H locs) (hL : mw_LR G cd.2.2.1 ls lsR) (hcc : cells + c = CT) (hss : slots + sl = ST) (hbd : H.size ≤ s.heap.size + cells) :
    ∃ a, vx_Run5 p l e R s m args below meth cc H locs cells slots mc ms (F0 m pc lsR (st.map (mw_tr G))) ((st.drop q.2.2.1.1).map (mw_tr G)) (QC a) XC (mw_A G) := by
  obtain ⟨hx, hb, hml, hr, hlk, hown, hnm, hts, hC⟩ := hB
  obtain ⟨k1, k2, k3, k4⟩ := h11
  have hcat := mw_all1 k2
  obtain ⟨hchk', g1, g2, g3, g4, g7, tb, htb, g6⟩ := id h5
  have hM := hMM tb htb
  have hpre := mw_call_pre (As := (st.take q.2.2.1.1).reverse) (mc := mc) (cells := cells) hC hR hS (by omega)
  have hfix : CallFix p m cc cd.2.1 cd.2.2.1 s args mw_T cd.1.cls := ⟨hx, hb, hml, hown, hts⟩
  have hws : ∀ w ∈ (mw_cw cd' tb :: mw_T), w ∈ mw_T := fun w hw => (List.mem_cons.mp hw).elim (fun e9 => by rw [e9]; exact g6) id
  have hroomC : (mw_room (d - 1) mc ms).frames + 1 ≤ R.frames ∧ 8 + (cd'.2.2.1 + 11) + (mw_room (d - 1) mc ms).locals ≤ R.locals := by
    show d - 1 + 10 + 1 ≤ R.frames ∧ 8 + (cd'.2.2.1 + 11) + (64 * (d - 1) + 200) ≤ R.locals
    omega
  have hsize : (F0 m pc lsR (st.map (mw_tr G))).locals.size = cd.2.2.1 := hL.2.1
  have hcats : (((st.drop q.2.2.1.1).map (mw_tr G)).map fun v => v.category).sum ≤ 8 := by
    rw [List.map_map]
    have e9 : ((fun v : Value => v.category) ∘ mw_tr G) = fun v => v.category := funext fun v => mw_tr_cat G v
    rw [e9]
    exact k1
  have hW := lv_room (m := m) (pc := pc) (ls := lsR) (rest := st.map (mw_tr G)) hcats
  have hf : cells + mc ≤ R.cells ∧ slots + ms ≤ R.slots := by omega
  obtain ⟨i, len, ⟨r1, r2, r3⟩, ps, y, k⟩ := q
  dsimp only at h3 h4 h9 k1 k2 k3 k4 hM hpre hcats hW hcat ⊢
  subst h4
  unfold mw_chkI at hc
  simp only [Bool.and_eq_true, decide_eq_true_eq] at hc
  obtain ⟨hd, hc⟩ := hc
  have hd := mw_dec_eq hd
  try dsimp only at hd
  cases i with
  | invokeinterface n cnt =>
    simp only [Bool.and_eq_true, decide_eq_true_eq] at hc
    obtain ⟨⟨⟨⟨rfl, rfl, rfl, rfl, hcls, hnm9⟩, c1⟩, c2⟩, c3⟩ := hc
    have htn : tb = [] := by
      rcases k4 with k4 | k4
      · exact absurd k4.1 (by omega)
      · cases tb with
        | nil => rfl
        | cons t ts =>
          exfalso
          cases hz : cd'.2.2.2.2.2 with
          | nil => rw [hz] at htb; cases htb
          | cons h hs => rw [hz] at k4; cases k4.2
    subst htn
    obtain ⟨a, n9, ha, hka⟩ := h10
    dsimp only at ha hka
    have hrr : vwCl[17]? = some (RJx35411, TJx35411, 4) := rfl
    obtain ⟨e3, hat⟩ := mw_arr hR hka
    rw [mw_cell_obj hrr] at hat
    obtain ⟨r', hr', cellB, q1, q2, q3, -⟩ := hat
    obtain ⟨-, hfc, kC, hkC, hkind⟩ := hC.1.1 17 _ hrr
    obtain ⟨e1, e2⟩ := mw_split (by decide) ha
    rw [e1] at hpre hM
    have ey : cd'.1 = ⟨"java/util/ArrayList$Itr", cd'.1.name, cd'.1.desc⟩ := by rw [← hcls]
    have hF : va_Fw "java/util/ArrayList$Itr" ⟨"java/util/Iterator", cd'.1.name, cd'.1.desc⟩ cd'.1 s := by
      have h9 := hC.2.2.2.2.2.2.2.2.2.2.2.2.2.2 (cd'.1.name, cd'.1.desc) (by
        rcases hnm9 with ⟨z1, z2⟩ | ⟨z1, z2⟩
        · left; rw [z1, z2]
        · right; rw [z1, z2])
      unfold mw_itr at h9
      dsimp only at h9
      rw [← ey] at h9
      exact h9
    have hpar : (parseMethodDescriptor cd'.1.desc).map (fun d => d.parameters.length) = some 0 := by
      rcases hnm9 with ⟨z1, z2⟩ | ⟨z1, z2⟩
      · rw [z2]; decide +kernel
      · rw [z2]; decide +kernel
    have hT : GoodIn mw_T (va_wsF cd.1.cls n "java/util/ArrayList$Itr" ⟨"java/util/Iterator", cd'.1.name, cd'.1.desc⟩ cd'.1 (mw_cw cd' [] :: mw_T)) := mw_goodIn (fun w hw => by
      unfold va_wsF at hw
      rcases List.mem_append.mp hw with hw | hw
      · simp only [List.mem_cons, List.not_mem_nil, or_false] at hw
        rcases hw with rfl | rfl | rfl | rfl
        · exact mw_wd_in c1
        · exact mw_wd_in c2
        · exact mw_wd_in c3
        · exact g3
      · exact hws w hw)
    refine ⟨_, vx_runF (x := ⟨"java/util/Iterator", cd'.1.name, cd'.1.desc⟩) (C := "java/util/ArrayList$Itr") (As := (st.take (1 - 1)).reverse.map (mw_tr G)) (b := mw_rho G a) ⟨hfc, kC, hkC, hkind⟩ hfix hM (va_cwF 0 hts hT rfl rfl rfl hF ⟨(by show "java/util/Iterator" ≠ _; decide), (by show "java/util/Iterator" ≠ _; decide), hpar⟩ hroomC) ⟨mw_Pc_blind, ⟨cellB, by rw [← e3]; exact q1, by rw [q3]; rfl, ?_⟩, hpre⟩ rfl (by simp) hsize ?_ hW hd hf⟩
    · show s.vm.findClass RJx35411 = some cellB.cls
      rw [hfc, q2]
    · show st.map (mw_tr G) = ((st.take (1 - 1)).reverse.map (mw_tr G)).reverse ++ .ref (mw_rho G a) :: (st.drop 1).map (mw_tr G)
      conv => lhs; rw [e2]
      simp [List.map_append, mw_tr]
  | _ => first | exact Bool.noConfusion hinvX | exact Bool.noConfusion hinv
end
