/-! state: a number that the office's state fixes -/
theorem mw_up0 (a : Nat) : mw_up 0 a = a := by
  unfold mw_up
  split
  · rw [if_pos (by omega)]
    rfl
  · split <;> rfl
theorem mw_upV0 (v : Value) : mw_upV 0 v = v := by
  cases v <;> first | rfl | exact congrArg Value.ref (mw_up0 _)
theorem mw_sub0 {M : mw_Mem} (h : ∀ x, 1000000 ≤ x → M.2.2.2.2.1 x = none) : mw_sub 0 M M := by
  refine ⟨rfl, fun a q ha => ⟨ha, ?_, rfl, rfl, rfl, fun k => ?_⟩⟩
  · show a < 1000000
    by_cases z : a < 1000000
    · exact z
    · rw [h a (by omega)] at ha
      cases ha
  · show M.2.2.2.1 a k = _
    cases M.2.2.2.1 a k with
    | none => rfl
    | some x => exact congrArg some (mw_up0 x).symm
theorem mw_join0 {M M' : mw_Mem} (h' : ∀ x, 1000000 ≤ x → M'.2.2.2.2.1 x = none) (e : ∀ x, x < M.2.2.2.2.2 → M.2.2.2.2.1 x = none → hq M M' x) : mw_join 0 M M M' = M' := by
  have key : ∀ x, mw_dom 0 M M x = true ∨ hq M M' x := fun x => by
    by_cases z : mw_dom 0 M M x = true
    · exact Or.inl z
    · refine Or.inr (e x ?_ ?_)
      · by_cases y : x < M.2.2.2.2.2
        · exact y
        · exfalso
          apply z
          unfold mw_dom
          simp only [Bool.and_eq_true, Bool.or_eq_true, decide_eq_true_eq]
          exact ⟨Nat.zero_le _, Or.inr (by omega)⟩
      · cases y : M.2.2.2.2.1 x with
        | none => rfl
        | some q =>
          exfalso
          apply z
          unfold mw_dom
          simp only [Bool.and_eq_true, Bool.or_eq_true, decide_eq_true_eq]
          exact ⟨Nat.zero_le _, Or.inl (by rw [Nat.sub_zero, y]; rfl)⟩
  unfold mw_join
  refine Prod.ext ?_ (Prod.ext ?_ (Prod.ext ?_ (Prod.ext ?_ (Prod.ext ?_ rfl))))
  · funext x
    show (if mw_dom 0 M M x = true then M'.1 (x - 0) else M.1 x) = M'.1 x
    split
    · rfl
    · rename_i z
      exact ((key x).resolve_left z).1.symm
  · funext x
    show (if mw_dom 0 M M x = true then M'.2.1 (x - 0) else M.2.1 x) = M'.2.1 x
    split
    · rfl
    · rename_i z
      exact ((key x).resolve_left z).2.1.symm
  · funext x
    show (if mw_dom 0 M M x = true then M'.2.2.1 (x - 0) else M.2.2.1 x) = M'.2.2.1 x
    split
    · rfl
    · rename_i z
      exact ((key x).resolve_left z).2.2.1.symm
  · funext x k
    show (if mw_dom 0 M M x = true then (M'.2.2.2.1 (x - 0) k).map (mw_up 0) else M.2.2.2.1 x k) = M'.2.2.2.1 x k
    split
    · rw [Nat.sub_zero]
      cases M'.2.2.2.1 x k with
      | none => rfl
      | some y => exact congrArg some (mw_up0 y)
    · rename_i z
      exact (congrFun ((key x).resolve_left z).2.2.2.1 k).symm
  · funext x
    show (if mw_dom 0 M M x = true then (if x < 1000000 then M'.2.2.2.2.1 (x - 0) else none) else M.2.2.2.2.1 x) = M'.2.2.2.2.1 x
    split
    · split
      · rfl
      · exact (h' x (by omega)).symm
    · rename_i z
      exact ((key x).resolve_left z).2.2.2.2.symm
section
variable {sc : Nat × (Nat → Int32)}
/-- a call of an interface's method -/
theorem mw_Wp.cal0 {cd : mw_CD} {D : Nat} {Qr : Option Value → mw_Mem → Prop} {Qx : Nat → mw_Mem → Prop} {pc : Nat} {ls : List (Option Value)} {st : List Value} {M : mw_Mem} {c sl : Nat} (q : mw_I) (cd' : mw_CD) (D' : Nat) (h1 : mw_lk cd pc = some q) (hb : mw_ckX q cd' st = true) (h4 : q.2.2.2.2.1 = cd'.1) (h5 : mw_Good cd') (h6 : D' < D) (h10 : mw_recv q st M) (hkn : ∀ x, 1000000 ≤ x → M.2.2.2.2.1 x = none)
    (a : mw_Wp sc mw_Good cd' D' (0, mw_entry cd'.2.2.1 (st.take q.2.2.1.1).reverse, [], M, 0, 0) (fun v M9 => ((∀ x, 1000000 ≤ x → M9.2.2.2.2.1 x = none) ∧ ∀ x, x < M.2.2.2.2.2 → M.2.2.2.2.1 x = none → hq M M9 x) ∧ mw_Wp sc mw_Good cd D (pc + q.2.1, ls, v.toList ++ st.drop q.2.2.1.1, M9, c, sl) Qr Qx) (fun _ _ => False)) : mw_Wp sc mw_Good cd D (pc, ls, st, M, c, sl) Qr Qx := by
  refine mw_Wp.calX q cd' D' 0 0 0 M (st.take q.2.2.1.1).reverse h1 hb h4 h5 h6 (Nat.zero_le _) (Nat.zero_le _) h10 ?_ (mw_sub0 hkn) (mw_Wp.mono a (fun v M9 h => ?_) (fun _ _ h => h.elim))
  · rw [show mw_upV 0 = id from funext mw_upV0, List.map_id]
  · rw [mw_join0 h.1.1 h.1.2]
    have e : v.map (mw_upV 0) = v := by
      cases v with
      | none => rfl
      | some x => exact congrArg some (mw_upV0 x)
    rw [e]
    exact h.2
/-- a piece that asks only -/
def Sq (sc : Nat × (Nat → Int32)) (g : Int → Int) (cd : mw_CD) (pc : Nat) (ls : Nat → List (Option Value)) (pc' : Nat) (ls' : Nat → List (Option Value)) (c s : Nat) : Prop := ∀ w : of_S, w.1.1 = g → Sg sc cd pc ls w pc' ls' w 0 c s
theorem Sq.trans {g : Int → Int} {cd : mw_CD} {p p' p'' : Nat} {L L' L'' : Nat → List (Option Value)} {c s c2 s2 : Nat} (h : Sq sc g cd p L p' L' c s) (k : Sq sc g cd p' L' p'' L'' c2 s2) : Sq sc g cd p L p'' L'' (c + c2) (s + s2) := fun w hw => (h w hw).trans (k w hw) (Int.le_refl _)
theorem Sq.more {g : Int → Int} {cd : mw_CD} {p p' : Nat} {L L' : Nat → List (Option Value)} {c s c2 s2 : Nat} (h : Sq sc g cd p L p' L' c s) (e1 : c ≤ c2) (e2 : s ≤ s2) : Sq sc g cd p L p' L' c2 s2 := fun w hw => (h w hw).more (Int.le_refl _) e1 e2
theorem Sq.wk {g : Int → Int} {cd : mw_CD} {p p' : Nat} {L L' L'' : Nat → List (Option Value)} {c s : Nat} (h : Sq sc g cd p L p' L' c s) (e : ∀ b, mw_le (L'' b) (L' b)) : Sq sc g cd p L p' L'' c s := fun w hw => (h w hw).wk e
theorem Sq.loop {g : Int → Int} {cd : mw_CD} {H X : Nat} {L : Int32 → Int32 → Nat → List (Option Value)} {m : Int} {c s ce se : Nat} (body : ∀ (i : Int) (v : Int32), 0 ≤ i → i < m → ∃ v', Sq sc g cd H (L v (Int32.ofInt i)) H (L v' (Int32.ofInt i + 1)) c s) (exit : ∀ v, Sq sc g cd H (L v (Int32.ofInt m)) X (L v (Int32.ofInt m)) ce se) : ∀ (n : Nat) (i : Int) (v : Int32), 0 ≤ i → m - i = n → ∃ v', Sq sc g cd H (L v (Int32.ofInt i)) X (L v' (Int32.ofInt m)) (n * c + ce) (n * s + se)
  | 0, i, v, h0, h1 => by
    obtain rfl : i = m := by omega
    exact ⟨v, (exit v).more (by omega) (by omega)⟩
  | n + 1, i, v, h0, h1 => by
    obtain ⟨v1, s1⟩ := body i v h0 (by omega)
    have e1 : Int32.ofInt i + 1 = Int32.ofInt (i + 1) := by
      rw [Int32.ofInt_add]
      rfl
    rw [e1] at s1
    obtain ⟨v2, s2⟩ := Sq.loop body exit n (i + 1) v1 (by omega) (by omega)
    refine ⟨v2, (s1.trans s2).more ?_ ?_⟩
    · rw [Nat.succ_mul]
      omega
    · rw [Nat.succ_mul]
      omega
theorem st_0 (g : Int → Int) : ∃ v, Sq sc g d_L_state 0 (fun b => [some (.ref b), none, none, none]) 40 (fun b => [some (.ref b), some (.int v), some (.int (Int32.ofInt 0)), none]) 20 120 := by
  refine ⟨(31 * ((31 * ((31 * ((31 * (Int32.ofInt (g 0))) + (Int32.ofInt (g 6)))) + ((Int64.ofInt (g 6 - 5 * g 7)).toInt32))) + (Int32.ofInt (g 8)))) + (Int32.ofInt (g 9)), fun w hw b sb M B Qr Qx c0 s0 hO hB K => ?_⟩
  show mw_Wp sc mw_Good d_L_state 300 (0, [some (.ref b), none, none, none], [], M, c0 + 20, s0 + 120) Qr Qx
  refine lr _ (2, [some (.ref b), none, none, none], [.int 31], M, c0 + 20, s0 + 120) l_L_state_0 rfl ?_
  refine lr _ (4, [some (.ref b), none, none, none], [.int 31, .int 31], M, c0 + 20, s0 + 120) l_L_state_2 rfl ?_
  refine lr _ (6, [some (.ref b), none, none, none], [.int 31, .int 31, .int 31], M, c0 + 20, s0 + 120) l_L_state_4 rfl ?_
  refine lr _ (8, [some (.ref b), none, none, none], [.int 31, .int 31, .int 31, .int 31], M, c0 + 20, s0 + 120) l_L_state_6 rfl ?_
  refine lr _ (9, [some (.ref b), none, none, none], [.ref b, .int 31, .int 31, .int 31, .int 31], M, c0 + 20, s0 + 120) l_L_state_8 rfl ?_
  refine lc_call [] o_hour hO (by omega) l_L_state_9 rfl rfl g_X11_hour (by decide) (by omega) (by omega) rfl rfl (fun R9 h9 => Or.inl ⟨_, _, rfl, h9⟩) (of_v_nr _) (fun M1 O1 F1 => ?_)
  rw [Int.add_zero] at O1
  show mw_Wp sc mw_Good d_L_state 300 (12, [some (.ref b), none, none, none], [.int (Int32.ofInt (w.1.1 0)), .int 31, .int 31, .int 31, .int 31], M1, c0 + 20 - 4, s0 + 120 - 24) Qr Qx
  rw [hw]
  refine lr _ (13, [some (.ref b), none, none, none], [.int (31 * (Int32.ofInt (g 0))), .int 31, .int 31, .int 31], M1, c0 + 20 - 4, s0 + 120 - 24) l_L_state_12 rfl ?_
  refine lr _ (14, [some (.ref b), none, none, none], [.ref b, .int (31 * (Int32.ofInt (g 0))), .int 31, .int 31, .int 31], M1, c0 + 20 - 4, s0 + 120 - 24) l_L_state_13 rfl ?_
  refine lc_call [] o_fareTotal O1 (by omega) l_L_state_14 rfl rfl g_X11_fareTotal (by decide) (by omega) (by omega) rfl rfl (fun R9 h9 => Or.inl ⟨_, _, rfl, h9⟩) (of_v_nr _) (fun M2 O2 F2 => ?_)
  rw [Int.add_zero] at O2
  show mw_Wp sc mw_Good d_L_state 300 (17, [some (.ref b), none, none, none], [.int (Int32.ofInt (w.1.1 6)), .int (31 * (Int32.ofInt (g 0))), .int 31, .int 31, .int 31], M2, c0 + 20 - 4 - 4, s0 + 120 - 24 - 24) Qr Qx
  rw [hw]
  refine lr _ (18, [some (.ref b), none, none, none], [.int ((31 * (Int32.ofInt (g 0))) + (Int32.ofInt (g 6))), .int 31, .int 31, .int 31], M2, c0 + 20 - 4 - 4, s0 + 120 - 24 - 24) l_L_state_17 rfl ?_
  refine lr _ (19, [some (.ref b), none, none, none], [.int (31 * ((31 * (Int32.ofInt (g 0))) + (Int32.ofInt (g 6)))), .int 31, .int 31], M2, c0 + 20 - 4 - 4, s0 + 120 - 24 - 24) l_L_state_18 rfl ?_
  refine lr _ (20, [some (.ref b), none, none, none], [.ref b, .int (31 * ((31 * (Int32.ofInt (g 0))) + (Int32.ofInt (g 6)))), .int 31, .int 31], M2, c0 + 20 - 4 - 4, s0 + 120 - 24 - 24) l_L_state_19 rfl ?_
  refine lc_call [] o_coins O2 (by omega) l_L_state_20 rfl rfl g_X11_coins (by decide) (by omega) (by omega) rfl rfl (fun R9 h9 => Or.inl ⟨_, _, rfl, h9⟩) True.intro (fun M3 O3 F3 => ?_)
  rw [Int.add_zero] at O3
  show mw_Wp sc mw_Good d_L_state 300 (23, [some (.ref b), none, none, none], [.long (Int64.ofInt (w.1.1 6 - 5 * w.1.1 7)), .int (31 * ((31 * (Int32.ofInt (g 0))) + (Int32.ofInt (g 6)))), .int 31, .int 31], M3, c0 + 20 - 4 - 4 - 4, s0 + 120 - 24 - 24 - 24) Qr Qx
  rw [hw]
  refine lr _ (24, [some (.ref b), none, none, none], [.int ((Int64.ofInt (g 6 - 5 * g 7)).toInt32), .int (31 * ((31 * (Int32.ofInt (g 0))) + (Int32.ofInt (g 6)))), .int 31, .int 31], M3, c0 + 20 - 4 - 4 - 4, s0 + 120 - 24 - 24 - 24) l_L_state_23 rfl ?_
  refine lr _ (25, [some (.ref b), none, none, none], [.int ((31 * ((31 * (Int32.ofInt (g 0))) + (Int32.ofInt (g 6)))) + ((Int64.ofInt (g 6 - 5 * g 7)).toInt32)), .int 31, .int 31], M3, c0 + 20 - 4 - 4 - 4, s0 + 120 - 24 - 24 - 24) l_L_state_24 rfl ?_
  refine lr _ (26, [some (.ref b), none, none, none], [.int (31 * ((31 * ((31 * (Int32.ofInt (g 0))) + (Int32.ofInt (g 6)))) + ((Int64.ofInt (g 6 - 5 * g 7)).toInt32))), .int 31], M3, c0 + 20 - 4 - 4 - 4, s0 + 120 - 24 - 24 - 24) l_L_state_25 rfl ?_
  refine lr _ (27, [some (.ref b), none, none, none], [.ref b, .int (31 * ((31 * ((31 * (Int32.ofInt (g 0))) + (Int32.ofInt (g 6)))) + ((Int64.ofInt (g 6 - 5 * g 7)).toInt32))), .int 31], M3, c0 + 20 - 4 - 4 - 4, s0 + 120 - 24 - 24 - 24) l_L_state_26 rfl ?_
  refine lc_call [] o_passageCount O3 (by omega) l_L_state_27 rfl rfl g_X11_passageCount (by decide) (by omega) (by omega) rfl rfl (fun R9 h9 => Or.inl ⟨_, _, rfl, h9⟩) (of_v_nr _) (fun M4 O4 F4 => ?_)
  rw [Int.add_zero] at O4
  show mw_Wp sc mw_Good d_L_state 300 (30, [some (.ref b), none, none, none], [.int (Int32.ofInt (w.1.1 8)), .int (31 * ((31 * ((31 * (Int32.ofInt (g 0))) + (Int32.ofInt (g 6)))) + ((Int64.ofInt (g 6 - 5 * g 7)).toInt32))), .int 31], M4, c0 + 20 - 4 - 4 - 4 - 4, s0 + 120 - 24 - 24 - 24 - 24) Qr Qx
  rw [hw]
  refine lr _ (31, [some (.ref b), none, none, none], [.int ((31 * ((31 * ((31 * (Int32.ofInt (g 0))) + (Int32.ofInt (g 6)))) + ((Int64.ofInt (g 6 - 5 * g 7)).toInt32))) + (Int32.ofInt (g 8))), .int 31], M4, c0 + 20 - 4 - 4 - 4 - 4, s0 + 120 - 24 - 24 - 24 - 24) l_L_state_30 rfl ?_
  refine lr _ (32, [some (.ref b), none, none, none], [.int (31 * ((31 * ((31 * ((31 * (Int32.ofInt (g 0))) + (Int32.ofInt (g 6)))) + ((Int64.ofInt (g 6 - 5 * g 7)).toInt32))) + (Int32.ofInt (g 8))))], M4, c0 + 20 - 4 - 4 - 4 - 4, s0 + 120 - 24 - 24 - 24 - 24) l_L_state_31 rfl ?_
  refine lr _ (33, [some (.ref b), none, none, none], [.ref b, .int (31 * ((31 * ((31 * ((31 * (Int32.ofInt (g 0))) + (Int32.ofInt (g 6)))) + ((Int64.ofInt (g 6 - 5 * g 7)).toInt32))) + (Int32.ofInt (g 8))))], M4, c0 + 20 - 4 - 4 - 4 - 4, s0 + 120 - 24 - 24 - 24 - 24) l_L_state_32 rfl ?_
  refine lc_call [] o_strandingCount O4 (by omega) l_L_state_33 rfl rfl g_X11_strandingCount (by decide) (by omega) (by omega) rfl rfl (fun R9 h9 => Or.inl ⟨_, _, rfl, h9⟩) (of_v_nr _) (fun M5 O5 F5 => ?_)
  rw [Int.add_zero] at O5
  show mw_Wp sc mw_Good d_L_state 300 (36, [some (.ref b), none, none, none], [.int (Int32.ofInt (w.1.1 9)), .int (31 * ((31 * ((31 * ((31 * (Int32.ofInt (g 0))) + (Int32.ofInt (g 6)))) + ((Int64.ofInt (g 6 - 5 * g 7)).toInt32))) + (Int32.ofInt (g 8))))], M5, c0 + 20 - 4 - 4 - 4 - 4 - 4, s0 + 120 - 24 - 24 - 24 - 24 - 24) Qr Qx
  rw [hw]
  refine lr _ (37, [some (.ref b), none, none, none], [.int ((31 * ((31 * ((31 * ((31 * (Int32.ofInt (g 0))) + (Int32.ofInt (g 6)))) + ((Int64.ofInt (g 6 - 5 * g 7)).toInt32))) + (Int32.ofInt (g 8)))) + (Int32.ofInt (g 9)))], M5, c0 + 20 - 4 - 4 - 4 - 4 - 4, s0 + 120 - 24 - 24 - 24 - 24 - 24) l_L_state_36 rfl ?_
  refine lr _ (38, [some (.ref b), some (.int ((31 * ((31 * ((31 * ((31 * (Int32.ofInt (g 0))) + (Int32.ofInt (g 6)))) + ((Int64.ofInt (g 6 - 5 * g 7)).toInt32))) + (Int32.ofInt (g 8)))) + (Int32.ofInt (g 9)))), none, none], [], M5, c0 + 20 - 4 - 4 - 4 - 4 - 4, s0 + 120 - 24 - 24 - 24 - 24 - 24) l_L_state_37 rfl ?_
  refine lr _ (39, [some (.ref b), some (.int ((31 * ((31 * ((31 * ((31 * (Int32.ofInt (g 0))) + (Int32.ofInt (g 6)))) + ((Int64.ofInt (g 6 - 5 * g 7)).toInt32))) + (Int32.ofInt (g 8)))) + (Int32.ofInt (g 9)))), none, none], [.int 0], M5, c0 + 20 - 4 - 4 - 4 - 4 - 4, s0 + 120 - 24 - 24 - 24 - 24 - 24) l_L_state_38 rfl ?_
  refine lr _ (40, [some (.ref b), some (.int ((31 * ((31 * ((31 * ((31 * (Int32.ofInt (g 0))) + (Int32.ofInt (g 6)))) + ((Int64.ofInt (g 6 - 5 * g 7)).toInt32))) + (Int32.ofInt (g 8)))) + (Int32.ofInt (g 9)))), some (.int 0), none], [], M5, c0 + 20 - 4 - 4 - 4 - 4 - 4, s0 + 120 - 24 - 24 - 24 - 24 - 24) l_L_state_39 rfl ?_
  rw [show (0 : Int32) = Int32.ofInt 0 from rfl]
  exact mw_Wp.less (Nat.le_refl _) (by omega) (by omega) (K M5 (by rw [Int.add_zero]; exact O5) ((((F1.trans F2).trans F3).trans F4).trans F5))
theorem st_in (g : Int → Int) {k : Int} (hk : 0 ≤ k ∧ k ≤ 6) (i : Int) (v : Int32) (i0 : 0 ≤ i) (i1 : i < k) : ∃ v', Sq sc g d_L_state 61 (fun b => [some (.ref b), some (.int v), some (.int (Int32.ofInt k)), some (.int (Int32.ofInt i))]) 61 (fun b => [some (.ref b), some (.int v'), some (.int (Int32.ofInt k)), some (.int (Int32.ofInt i + 1))]) 8 48 := by
  obtain ⟨a1, h1⟩ := x_act17 (sc := sc) g (Int32.ofInt k) (Int32.ofInt i) 0
  obtain ⟨a2, h2⟩ := x_act9 (sc := sc) g (Int32.ofInt k) (Int32.ofInt i) 0
  refine ⟨(31 * ((31 * v) + a1)) + a2, fun w hw b sb M B Qr Qx c0 s0 hO hB K => ?_⟩
  show mw_Wp sc mw_Good d_L_state 300 (61, [some (.ref b), some (.int v), some (.int (Int32.ofInt k)), some (.int (Int32.ofInt i))], [], M, c0 + 8, s0 + 48) Qr Qx
  refine lr _ (62, [some (.ref b), some (.int v), some (.int (Int32.ofInt k)), some (.int (Int32.ofInt i))], [.int (Int32.ofInt i)], M, c0 + 8, s0 + 48) l_L_state_61 rfl ?_
  refine lr _ (63, [some (.ref b), some (.int v), some (.int (Int32.ofInt k)), some (.int (Int32.ofInt i))], [.int (Int32.ofInt k), .int (Int32.ofInt i)], M, c0 + 8, s0 + 48) l_L_state_62 rfl ?_
  refine lbF _ ((Int32.ofInt k) ≤ (Int32.ofInt i)) (100, [some (.ref b), some (.int v), some (.int (Int32.ofInt k)), some (.int (Int32.ofInt i))], [], M, c0 + 8, s0 + 48) (66, [some (.ref b), some (.int v), some (.int (Int32.ofInt k)), some (.int (Int32.ofInt i))], [], M, c0 + 8, s0 + 48) l_L_state_63 rfl (by
    rw [nw_le ⟨by omega, by omega⟩ ⟨by omega, by omega⟩]
    omega) ?_
  refine lr _ (68, [some (.ref b), some (.int v), some (.int (Int32.ofInt k)), some (.int (Int32.ofInt i))], [.int 31], M, c0 + 8, s0 + 48) l_L_state_66 rfl ?_
  refine lr _ (70, [some (.ref b), some (.int v), some (.int (Int32.ofInt k)), some (.int (Int32.ofInt i))], [.int 31, .int 31], M, c0 + 8, s0 + 48) l_L_state_68 rfl ?_
  refine lr _ (71, [some (.ref b), some (.int v), some (.int (Int32.ofInt k)), some (.int (Int32.ofInt i))], [.int v, .int 31, .int 31], M, c0 + 8, s0 + 48) l_L_state_70 rfl ?_
  refine lr _ (72, [some (.ref b), some (.int v), some (.int (Int32.ofInt k)), some (.int (Int32.ofInt i))], [.int (31 * v), .int 31], M, c0 + 8, s0 + 48) l_L_state_71 rfl ?_
  refine lr _ (73, [some (.ref b), some (.int v), some (.int (Int32.ofInt k)), some (.int (Int32.ofInt i))], [.ref b, .int (31 * v), .int 31], M, c0 + 8, s0 + 48) l_L_state_72 rfl ?_
  refine lr _ (75, [some (.ref b), some (.int v), some (.int (Int32.ofInt k)), some (.int (Int32.ofInt i))], [.int 17, .ref b, .int (31 * v), .int 31], M, c0 + 8, s0 + 48) l_L_state_73 rfl ?_
  refine lr _ (76, [some (.ref b), some (.int v), some (.int (Int32.ofInt k)), some (.int (Int32.ofInt i))], [.int (Int32.ofInt k), .int 17, .ref b, .int (31 * v), .int 31], M, c0 + 8, s0 + 48) l_L_state_75 rfl ?_
  refine lr _ (77, [some (.ref b), some (.int v), some (.int (Int32.ofInt k)), some (.int (Int32.ofInt i))], [.int (Int32.ofInt i), .int (Int32.ofInt k), .int 17, .ref b, .int (31 * v), .int 31], M, c0 + 8, s0 + 48) l_L_state_76 rfl ?_
  refine lr _ (78, [some (.ref b), some (.int v), some (.int (Int32.ofInt k)), some (.int (Int32.ofInt i))], [.int 0, .int (Int32.ofInt i), .int (Int32.ofInt k), .int 17, .ref b, .int (31 * v), .int 31], M, c0 + 8, s0 + 48) l_L_state_77 rfl ?_
  refine lc_own [17, Int32.ofInt k, Int32.ofInt i, 0] _ (h1 w hw) hO (by omega) l_L_state_78 rfl rfl g_L_act (by decide) (by omega) (by omega) True.intro rfl rfl (fun M1 O1 F1 => ?_)
  show mw_Wp sc mw_Good d_L_state 300 (81, [some (.ref b), some (.int v), some (.int (Int32.ofInt k)), some (.int (Int32.ofInt i))], [.int a1, .int (31 * v), .int 31], M1, c0 + 8 - 4, s0 + 48 - 24) Qr Qx
  rw [Int.add_zero] at O1
  refine lr _ (82, [some (.ref b), some (.int v), some (.int (Int32.ofInt k)), some (.int (Int32.ofInt i))], [.int ((31 * v) + a1), .int 31], M1, c0 + 8 - 4, s0 + 48 - 24) l_L_state_81 rfl ?_
  refine lr _ (83, [some (.ref b), some (.int v), some (.int (Int32.ofInt k)), some (.int (Int32.ofInt i))], [.int (31 * ((31 * v) + a1))], M1, c0 + 8 - 4, s0 + 48 - 24) l_L_state_82 rfl ?_
  refine lr _ (84, [some (.ref b), some (.int v), some (.int (Int32.ofInt k)), some (.int (Int32.ofInt i))], [.ref b, .int (31 * ((31 * v) + a1))], M1, c0 + 8 - 4, s0 + 48 - 24) l_L_state_83 rfl ?_
  refine lr _ (86, [some (.ref b), some (.int v), some (.int (Int32.ofInt k)), some (.int (Int32.ofInt i))], [.int 9, .ref b, .int (31 * ((31 * v) + a1))], M1, c0 + 8 - 4, s0 + 48 - 24) l_L_state_84 rfl ?_
  refine lr _ (87, [some (.ref b), some (.int v), some (.int (Int32.ofInt k)), some (.int (Int32.ofInt i))], [.int (Int32.ofInt k), .int 9, .ref b, .int (31 * ((31 * v) + a1))], M1, c0 + 8 - 4, s0 + 48 - 24) l_L_state_86 rfl ?_
  refine lr _ (88, [some (.ref b), some (.int v), some (.int (Int32.ofInt k)), some (.int (Int32.ofInt i))], [.int (Int32.ofInt i), .int (Int32.ofInt k), .int 9, .ref b, .int (31 * ((31 * v) + a1))], M1, c0 + 8 - 4, s0 + 48 - 24) l_L_state_87 rfl ?_
  refine lr _ (89, [some (.ref b), some (.int v), some (.int (Int32.ofInt k)), some (.int (Int32.ofInt i))], [.int 0, .int (Int32.ofInt i), .int (Int32.ofInt k), .int 9, .ref b, .int (31 * ((31 * v) + a1))], M1, c0 + 8 - 4, s0 + 48 - 24) l_L_state_88 rfl ?_
  refine lc_own [9, Int32.ofInt k, Int32.ofInt i, 0] _ (h2 w hw) O1 (by omega) l_L_state_89 rfl rfl g_L_act (by decide) (by omega) (by omega) True.intro rfl rfl (fun M2 O2 F2 => ?_)
  show mw_Wp sc mw_Good d_L_state 300 (92, [some (.ref b), some (.int v), some (.int (Int32.ofInt k)), some (.int (Int32.ofInt i))], [.int a2, .int (31 * ((31 * v) + a1))], M2, c0 + 8 - 4 - 4, s0 + 48 - 24 - 24) Qr Qx
  rw [Int.add_zero] at O2
  refine lr _ (93, [some (.ref b), some (.int v), some (.int (Int32.ofInt k)), some (.int (Int32.ofInt i))], [.int ((31 * ((31 * v) + a1)) + a2)], M2, c0 + 8 - 4 - 4, s0 + 48 - 24 - 24) l_L_state_92 rfl ?_
  refine lr _ (94, [some (.ref b), some (.int ((31 * ((31 * v) + a1)) + a2)), some (.int (Int32.ofInt k)), some (.int (Int32.ofInt i))], [], M2, c0 + 8 - 4 - 4, s0 + 48 - 24 - 24) l_L_state_93 rfl ?_
  refine lr _ (97, [some (.ref b), some (.int ((31 * ((31 * v) + a1)) + a2)), some (.int (Int32.ofInt k)), some (.int ((Int32.ofInt i) + 1))], [], M2, c0 + 8 - 4 - 4, s0 + 48 - 24 - 24) l_L_state_94 rfl ?_
  refine lr _ (61, [some (.ref b), some (.int ((31 * ((31 * v) + a1)) + a2)), some (.int (Int32.ofInt k)), some (.int ((Int32.ofInt i) + 1))], [], M2, c0 + 8 - 4 - 4, s0 + 48 - 24 - 24) l_L_state_97 rfl ?_
  exact mw_Wp.less (Nat.le_refl _) (by omega) (by omega) (K M2 (by rw [Int.add_zero]; exact O2) (F1.trans F2))
theorem st_ix (g : Int → Int) {k : Int} (v : Int32) : Sq sc g d_L_state 61 (fun b => [some (.ref b), some (.int v), some (.int (Int32.ofInt k)), some (.int (Int32.ofInt k))]) 100 (fun b => [some (.ref b), some (.int v), some (.int (Int32.ofInt k)), some (.int (Int32.ofInt k))]) 0 0 := by
  refine fun w hw b sb M B Qr Qx c0 s0 hO hB K => ?_
  show mw_Wp sc mw_Good d_L_state 300 (61, [some (.ref b), some (.int v), some (.int (Int32.ofInt k)), some (.int (Int32.ofInt k))], [], M, c0 + 0, s0 + 0) Qr Qx
  refine lr _ (62, [some (.ref b), some (.int v), some (.int (Int32.ofInt k)), some (.int (Int32.ofInt k))], [.int (Int32.ofInt k)], M, c0 + 0, s0 + 0) l_L_state_61 rfl ?_
  refine lr _ (63, [some (.ref b), some (.int v), some (.int (Int32.ofInt k)), some (.int (Int32.ofInt k))], [.int (Int32.ofInt k), .int (Int32.ofInt k)], M, c0 + 0, s0 + 0) l_L_state_62 rfl ?_
  refine lbT _ ((Int32.ofInt k) ≤ (Int32.ofInt k)) (100, [some (.ref b), some (.int v), some (.int (Int32.ofInt k)), some (.int (Int32.ofInt k))], [], M, c0 + 0, s0 + 0) (66, [some (.ref b), some (.int v), some (.int (Int32.ofInt k)), some (.int (Int32.ofInt k))], [], M, c0 + 0, s0 + 0) l_L_state_63 rfl (Int32.le_refl _) ?_
  exact mw_Wp.less (Nat.le_refl _) (by omega) (by omega) (K M (by rw [Int.add_zero]; exact hO) Fr.refl)
theorem st_a (g : Int → Int) {k : Int} (v : Int32) (k0 : 0 ≤ k) (k1 : k < g 1) : Sq sc g d_L_state 40 (fun b => [some (.ref b), some (.int v), some (.int (Int32.ofInt k)), none]) 61 (fun b => [some (.ref b), some (.int (31 * v + Int32.ofInt (g (10 + k)))), some (.int (Int32.ofInt k)), some (.int (Int32.ofInt 0))]) 8 48 := by
  refine fun w hw b sb M B Qr Qx c0 s0 hO hB K => ?_
  have I := hO.inv.1.cr
  rw [hw] at I
  show mw_Wp sc mw_Good d_L_state 300 (40, [some (.ref b), some (.int v), some (.int (Int32.ofInt k)), none], [], M, c0 + 8, s0 + 48) Qr Qx
  refine lr _ (41, [some (.ref b), some (.int v), some (.int (Int32.ofInt k)), none], [.int (Int32.ofInt k)], M, c0 + 8, s0 + 48) l_L_state_40 rfl ?_
  refine lr _ (42, [some (.ref b), some (.int v), some (.int (Int32.ofInt k)), none], [.ref b, .int (Int32.ofInt k)], M, c0 + 8, s0 + 48) l_L_state_41 rfl ?_
  refine lc_call [] o_craterCount hO (by omega) l_L_state_42 rfl rfl g_X11_craterCount (by decide) (by omega) (by omega) rfl rfl (fun R9 h9 => Or.inl ⟨_, _, rfl, h9⟩) (of_v_nr _) (fun M1 O1 F1 => ?_)
  rw [Int.add_zero] at O1
  show mw_Wp sc mw_Good d_L_state 300 (45, [some (.ref b), some (.int v), some (.int (Int32.ofInt k)), none], [.int (Int32.ofInt (w.1.1 1)), .int (Int32.ofInt k)], M1, c0 + 8 - 4, s0 + 48 - 24) Qr Qx
  rw [hw]
  refine lbF _ ((Int32.ofInt (g 1)) ≤ (Int32.ofInt k)) (106, [some (.ref b), some (.int v), some (.int (Int32.ofInt k)), none], [], M1, c0 + 8 - 4, s0 + 48 - 24) (48, [some (.ref b), some (.int v), some (.int (Int32.ofInt k)), none], [], M1, c0 + 8 - 4, s0 + 48 - 24) l_L_state_45 rfl (by
    rw [nw_le ⟨by omega, by omega⟩ ⟨by omega, by omega⟩]
    omega) ?_
  refine lr _ (50, [some (.ref b), some (.int v), some (.int (Int32.ofInt k)), none], [.int 31], M1, c0 + 8 - 4, s0 + 48 - 24) l_L_state_48 rfl ?_
  refine lr _ (51, [some (.ref b), some (.int v), some (.int (Int32.ofInt k)), none], [.int v, .int 31], M1, c0 + 8 - 4, s0 + 48 - 24) l_L_state_50 rfl ?_
  refine lr _ (52, [some (.ref b), some (.int v), some (.int (Int32.ofInt k)), none], [.int (31 * v)], M1, c0 + 8 - 4, s0 + 48 - 24) l_L_state_51 rfl ?_
  refine lr _ (53, [some (.ref b), some (.int v), some (.int (Int32.ofInt k)), none], [.ref b, .int (31 * v)], M1, c0 + 8 - 4, s0 + 48 - 24) l_L_state_52 rfl ?_
  refine lr _ (54, [some (.ref b), some (.int v), some (.int (Int32.ofInt k)), none], [.int (Int32.ofInt k), .ref b, .int (31 * v)], M1, c0 + 8 - 4, s0 + 48 - 24) l_L_state_53 rfl ?_
  have ek : (Int32.ofInt k).toInt = k := nw_ti ⟨by omega, by omega⟩
  have hd := o_depthOf (w := w) (x := k) (by rw [hw]; omega)
  rw [← ek] at hd
  refine lc_call [Int32.ofInt k] hd O1 (by omega) l_L_state_54 rfl rfl g_X11_depthOf (by decide) (by omega) (by omega) rfl rfl (fun R9 h9 => Or.inl ⟨_, _, rfl, h9⟩) (of_v_nr _) (fun M2 O2 F2 => ?_)
  rw [Int.add_zero] at O2
  show mw_Wp sc mw_Good d_L_state 300 (57, [some (.ref b), some (.int v), some (.int (Int32.ofInt k)), none], [.int (Int32.ofInt (w.1.1 (10 + (Int32.ofInt k).toInt))), .int (31 * v)], M2, c0 + 8 - 4 - 4, s0 + 48 - 24 - 24) Qr Qx
  rw [ek, hw]
  refine lr _ (58, [some (.ref b), some (.int v), some (.int (Int32.ofInt k)), none], [.int ((31 * v) + (Int32.ofInt (g (10 + k))))], M2, c0 + 8 - 4 - 4, s0 + 48 - 24 - 24) l_L_state_57 rfl ?_
  refine lr _ (59, [some (.ref b), some (.int ((31 * v) + (Int32.ofInt (g (10 + k))))), some (.int (Int32.ofInt k)), none], [], M2, c0 + 8 - 4 - 4, s0 + 48 - 24 - 24) l_L_state_58 rfl ?_
  refine lr _ (60, [some (.ref b), some (.int ((31 * v) + (Int32.ofInt (g (10 + k))))), some (.int (Int32.ofInt k)), none], [.int 0], M2, c0 + 8 - 4 - 4, s0 + 48 - 24 - 24) l_L_state_59 rfl ?_
  refine lr _ (61, [some (.ref b), some (.int ((31 * v) + (Int32.ofInt (g (10 + k))))), some (.int (Int32.ofInt k)), some (.int 0)], [], M2, c0 + 8 - 4 - 4, s0 + 48 - 24 - 24) l_L_state_60 rfl ?_
  rw [show (0 : Int32) = Int32.ofInt 0 from rfl]
  exact mw_Wp.less (Nat.le_refl _) (by omega) (by omega) (K M2 (by rw [Int.add_zero]; exact O2) (F1.trans F2))
theorem st_z (g : Int → Int) {k j v : Int32} : Sq sc g d_L_state 100 (fun b => [some (.ref b), some (.int v), some (.int k), some (.int j)]) 40 (fun b => [some (.ref b), some (.int v), some (.int (k + 1)), some (.int j)]) 0 0 := by
  refine fun w hw b sb M B Qr Qx c0 s0 hO hB K => ?_
  show mw_Wp sc mw_Good d_L_state 300 (100, [some (.ref b), some (.int v), some (.int k), some (.int j)], [], M, c0 + 0, s0 + 0) Qr Qx
  refine lr _ (103, [some (.ref b), some (.int v), some (.int (k + 1)), some (.int j)], [], M, c0 + 0, s0 + 0) l_L_state_100 rfl ?_
  refine lr _ (40, [some (.ref b), some (.int v), some (.int (k + 1)), some (.int j)], [], M, c0 + 0, s0 + 0) l_L_state_103 rfl ?_
  exact mw_Wp.less (Nat.le_refl _) (by omega) (by omega) (K M (by rw [Int.add_zero]; exact hO) Fr.refl)
theorem st_x (g : Int → Int) (v : Int32) : Sq sc g d_L_state 40 (fun b => [some (.ref b), some (.int v), some (.int (Int32.ofInt (g 1))), none]) 106 (fun b => [some (.ref b), some (.int v), some (.int (Int32.ofInt (g 1))), none]) 4 24 := by
  refine fun w hw b sb M B Qr Qx c0 s0 hO hB K => ?_
  show mw_Wp sc mw_Good d_L_state 300 (40, [some (.ref b), some (.int v), some (.int (Int32.ofInt (g 1))), none], [], M, c0 + 4, s0 + 24) Qr Qx
  refine lr _ (41, [some (.ref b), some (.int v), some (.int (Int32.ofInt (g 1))), none], [.int (Int32.ofInt (g 1))], M, c0 + 4, s0 + 24) l_L_state_40 rfl ?_
  refine lr _ (42, [some (.ref b), some (.int v), some (.int (Int32.ofInt (g 1))), none], [.ref b, .int (Int32.ofInt (g 1))], M, c0 + 4, s0 + 24) l_L_state_41 rfl ?_
  refine lc_call [] o_craterCount hO (by omega) l_L_state_42 rfl rfl g_X11_craterCount (by decide) (by omega) (by omega) rfl rfl (fun R9 h9 => Or.inl ⟨_, _, rfl, h9⟩) (of_v_nr _) (fun M1 O1 F1 => ?_)
  rw [Int.add_zero] at O1
  show mw_Wp sc mw_Good d_L_state 300 (45, [some (.ref b), some (.int v), some (.int (Int32.ofInt (g 1))), none], [.int (Int32.ofInt (w.1.1 1)), .int (Int32.ofInt (g 1))], M1, c0 + 4 - 4, s0 + 24 - 24) Qr Qx
  rw [hw]
  refine lbT _ ((Int32.ofInt (g 1)) ≤ (Int32.ofInt (g 1))) (106, [some (.ref b), some (.int v), some (.int (Int32.ofInt (g 1))), none], [], M1, c0 + 4 - 4, s0 + 24 - 24) (48, [some (.ref b), some (.int v), some (.int (Int32.ofInt (g 1))), none], [], M1, c0 + 4 - 4, s0 + 24 - 24) l_L_state_45 rfl (Int32.le_refl _) ?_
  exact mw_Wp.less (Nat.le_refl _) (by omega) (by omega) (K M1 (by rw [Int.add_zero]; exact O1) F1)
theorem st_out (g : Int → Int) (h1 : 0 ≤ g 1 ∧ g 1 ≤ 6) (v : Int32) : ∃ v', Sq sc g d_L_state 40 (fun b => [some (.ref b), some (.int v), some (.int (Int32.ofInt 0)), none]) 106 (fun b => [some (.ref b), some (.int v'), some (.int (Int32.ofInt (g 1))), none]) 400 2400 := by
  have body : ∀ (k : Int) (v : Int32), 0 ≤ k → k < g 1 → ∃ v', Sq sc g d_L_state 40 (fun b => [some (.ref b), some (.int v), some (.int (Int32.ofInt k)), none]) 40 (fun b => [some (.ref b), some (.int v'), some (.int (Int32.ofInt k + 1)), none]) 56 336 := fun k v k0 k1 => by
    obtain ⟨v1, h1⟩ := Sq.loop (sc := sc) (g := g) (cd := d_L_state) (H := 61) (X := 100) (L := fun v j b => [some (.ref b), some (.int v), some (.int (Int32.ofInt k)), some (.int j)]) (m := k) (c := 8) (s := 48) (ce := 0) (se := 0) (fun i v i0 i1 => st_in g (by omega) i v i0 i1) (fun v => st_ix g v) k.toNat 0 (31 * v + Int32.ofInt (g (10 + k))) (by decide) (by omega)
    exact ⟨v1, ((((st_a g v k0 k1).trans h1).trans (st_z g)).wk (L'' := (fun b => [some (.ref b), some (.int v1), some (.int (Int32.ofInt k + 1)), none])) (fun b => ⟨rfl, rfl, rfl, True.intro, True.intro⟩)).more (by omega) (by omega)⟩
  obtain ⟨v', h⟩ := Sq.loop (sc := sc) (g := g) (cd := d_L_state) (H := 40) (X := 106) (L := fun v k b => [some (.ref b), some (.int v), some (.int k), none]) (m := g 1) (c := 56) (s := 336) (ce := 4) (se := 24) body (fun v => st_x g v) (g 1).toNat 0 v (by decide) (by omega)
  exact ⟨v', h.more (by omega) (by omega)⟩
theorem st_l (g : Int → Int) {k v : Int32} : Sq sc g d_L_state 106 (fun b => [some (.ref b), some (.int v), some (.int k), none]) 108 (fun b => [some (.ref b), some (.int v), some (.int (Int32.ofInt 0)), none]) 0 0 := by
  refine fun w hw b sb M B Qr Qx c0 s0 hO hB K => ?_
  show mw_Wp sc mw_Good d_L_state 300 (106, [some (.ref b), some (.int v), some (.int k), none], [], M, c0 + 0, s0 + 0) Qr Qx
  refine lr _ (107, [some (.ref b), some (.int v), some (.int k), none], [.int 0], M, c0 + 0, s0 + 0) l_L_state_106 rfl ?_
  refine lr _ (108, [some (.ref b), some (.int v), some (.int 0), none], [], M, c0 + 0, s0 + 0) l_L_state_107 rfl ?_
  rw [show (0 : Int32) = Int32.ofInt 0 from rfl]
  exact mw_Wp.less (Nat.le_refl _) (by omega) (by omega) (K M (by rw [Int.add_zero]; exact hO) Fr.refl)
theorem st_f (g : Int → Int) (h3 : g 3 ≤ 3) (i : Int) (v : Int32) (i0 : 0 ≤ i) (i1 : i < g 3) : ∃ v', Sq sc g d_L_state 108 (fun b => [some (.ref b), some (.int v), some (.int (Int32.ofInt i)), none]) 108 (fun b => [some (.ref b), some (.int v'), some (.int (Int32.ofInt i + 1)), none]) 32 192 := by
  obtain ⟨a1, h1⟩ := x_act20 (sc := sc) g (Int32.ofInt i) 0 0
  obtain ⟨a2, h2⟩ := x_act21 (sc := sc) g (Int32.ofInt i) 0 0
  refine ⟨((31 * ((31 * ((31 * v) + a1)) + a2)) + (Int32.ofInt (sv_left g i))) + (100 * (Int32.ofInt (sp_car g i))), fun w hw b sb M B Qr Qx c0 s0 hO hB K => ?_⟩
  have ei : (Int32.ofInt i).toInt = i := nw_ti ⟨by omega, by omega⟩
  show mw_Wp sc mw_Good d_L_state 300 (108, [some (.ref b), some (.int v), some (.int (Int32.ofInt i)), none], [], M, c0 + 32, s0 + 192) Qr Qx
  refine lr _ (109, [some (.ref b), some (.int v), some (.int (Int32.ofInt i)), none], [.int (Int32.ofInt i)], M, c0 + 32, s0 + 192) l_L_state_108 rfl ?_
  refine lr _ (110, [some (.ref b), some (.int v), some (.int (Int32.ofInt i)), none], [.ref b, .int (Int32.ofInt i)], M, c0 + 32, s0 + 192) l_L_state_109 rfl ?_
  refine lc_own [] _ (t_ferries g w hw) hO (by omega) l_L_state_110 rfl rfl g_L_ferries (by decide) (by omega) (by omega) True.intro rfl rfl (fun M1 O1 F1 => ?_)
  show mw_Wp sc mw_Good d_L_state 300 (113, [some (.ref b), some (.int v), some (.int (Int32.ofInt i)), none], [.int (Int32.ofInt (g 3)), .int (Int32.ofInt i)], M1, c0 + 32 - 16, s0 + 192 - 96) Qr Qx
  rw [Int.add_zero] at O1
  refine lbF _ ((Int32.ofInt (g 3)) ≤ (Int32.ofInt i)) (168, [some (.ref b), some (.int v), some (.int (Int32.ofInt i)), none], [], M1, c0 + 32 - 16, s0 + 192 - 96) (116, [some (.ref b), some (.int v), some (.int (Int32.ofInt i)), none], [], M1, c0 + 32 - 16, s0 + 192 - 96) l_L_state_113 rfl (by
    rw [nw_le ⟨by omega, by omega⟩ ⟨by omega, by omega⟩]
    omega) ?_
  refine lr _ (118, [some (.ref b), some (.int v), some (.int (Int32.ofInt i)), none], [.int 31], M1, c0 + 32 - 16, s0 + 192 - 96) l_L_state_116 rfl ?_
  refine lr _ (120, [some (.ref b), some (.int v), some (.int (Int32.ofInt i)), none], [.int 31, .int 31], M1, c0 + 32 - 16, s0 + 192 - 96) l_L_state_118 rfl ?_
  refine lr _ (122, [some (.ref b), some (.int v), some (.int (Int32.ofInt i)), none], [.int 31, .int 31, .int 31], M1, c0 + 32 - 16, s0 + 192 - 96) l_L_state_120 rfl ?_
  refine lr _ (123, [some (.ref b), some (.int v), some (.int (Int32.ofInt i)), none], [.int v, .int 31, .int 31, .int 31], M1, c0 + 32 - 16, s0 + 192 - 96) l_L_state_122 rfl ?_
  refine lr _ (124, [some (.ref b), some (.int v), some (.int (Int32.ofInt i)), none], [.int (31 * v), .int 31, .int 31], M1, c0 + 32 - 16, s0 + 192 - 96) l_L_state_123 rfl ?_
  refine lr _ (125, [some (.ref b), some (.int v), some (.int (Int32.ofInt i)), none], [.ref b, .int (31 * v), .int 31, .int 31], M1, c0 + 32 - 16, s0 + 192 - 96) l_L_state_124 rfl ?_
  refine lr _ (127, [some (.ref b), some (.int v), some (.int (Int32.ofInt i)), none], [.int 20, .ref b, .int (31 * v), .int 31, .int 31], M1, c0 + 32 - 16, s0 + 192 - 96) l_L_state_125 rfl ?_
  refine lr _ (128, [some (.ref b), some (.int v), some (.int (Int32.ofInt i)), none], [.int (Int32.ofInt i), .int 20, .ref b, .int (31 * v), .int 31, .int 31], M1, c0 + 32 - 16, s0 + 192 - 96) l_L_state_127 rfl ?_
  refine lr _ (129, [some (.ref b), some (.int v), some (.int (Int32.ofInt i)), none], [.int 0, .int (Int32.ofInt i), .int 20, .ref b, .int (31 * v), .int 31, .int 31], M1, c0 + 32 - 16, s0 + 192 - 96) l_L_state_128 rfl ?_
  refine lr _ (130, [some (.ref b), some (.int v), some (.int (Int32.ofInt i)), none], [.int 0, .int 0, .int (Int32.ofInt i), .int 20, .ref b, .int (31 * v), .int 31, .int 31], M1, c0 + 32 - 16, s0 + 192 - 96) l_L_state_129 rfl ?_
  refine lc_own [20, Int32.ofInt i, 0, 0] _ (h1 w hw) O1 (by omega) l_L_state_130 rfl rfl g_L_act (by decide) (by omega) (by omega) True.intro rfl rfl (fun M2 O2 F2 => ?_)
  show mw_Wp sc mw_Good d_L_state 300 (133, [some (.ref b), some (.int v), some (.int (Int32.ofInt i)), none], [.int a1, .int (31 * v), .int 31, .int 31], M2, c0 + 32 - 16 - 4, s0 + 192 - 96 - 24) Qr Qx
  rw [Int.add_zero] at O2
  refine lr _ (134, [some (.ref b), some (.int v), some (.int (Int32.ofInt i)), none], [.int ((31 * v) + a1), .int 31, .int 31], M2, c0 + 32 - 16 - 4, s0 + 192 - 96 - 24) l_L_state_133 rfl ?_
  refine lr _ (135, [some (.ref b), some (.int v), some (.int (Int32.ofInt i)), none], [.int (31 * ((31 * v) + a1)), .int 31], M2, c0 + 32 - 16 - 4, s0 + 192 - 96 - 24) l_L_state_134 rfl ?_
  refine lr _ (136, [some (.ref b), some (.int v), some (.int (Int32.ofInt i)), none], [.ref b, .int (31 * ((31 * v) + a1)), .int 31], M2, c0 + 32 - 16 - 4, s0 + 192 - 96 - 24) l_L_state_135 rfl ?_
  refine lr _ (138, [some (.ref b), some (.int v), some (.int (Int32.ofInt i)), none], [.int 21, .ref b, .int (31 * ((31 * v) + a1)), .int 31], M2, c0 + 32 - 16 - 4, s0 + 192 - 96 - 24) l_L_state_136 rfl ?_
  refine lr _ (139, [some (.ref b), some (.int v), some (.int (Int32.ofInt i)), none], [.int (Int32.ofInt i), .int 21, .ref b, .int (31 * ((31 * v) + a1)), .int 31], M2, c0 + 32 - 16 - 4, s0 + 192 - 96 - 24) l_L_state_138 rfl ?_
  refine lr _ (140, [some (.ref b), some (.int v), some (.int (Int32.ofInt i)), none], [.int 0, .int (Int32.ofInt i), .int 21, .ref b, .int (31 * ((31 * v) + a1)), .int 31], M2, c0 + 32 - 16 - 4, s0 + 192 - 96 - 24) l_L_state_139 rfl ?_
  refine lr _ (141, [some (.ref b), some (.int v), some (.int (Int32.ofInt i)), none], [.int 0, .int 0, .int (Int32.ofInt i), .int 21, .ref b, .int (31 * ((31 * v) + a1)), .int 31], M2, c0 + 32 - 16 - 4, s0 + 192 - 96 - 24) l_L_state_140 rfl ?_
  refine lc_own [21, Int32.ofInt i, 0, 0] _ (h2 w hw) O2 (by omega) l_L_state_141 rfl rfl g_L_act (by decide) (by omega) (by omega) True.intro rfl rfl (fun M3 O3 F3 => ?_)
  show mw_Wp sc mw_Good d_L_state 300 (144, [some (.ref b), some (.int v), some (.int (Int32.ofInt i)), none], [.int a2, .int (31 * ((31 * v) + a1)), .int 31], M3, c0 + 32 - 16 - 4 - 4, s0 + 192 - 96 - 24 - 24) Qr Qx
  rw [Int.add_zero] at O3
  refine lr _ (145, [some (.ref b), some (.int v), some (.int (Int32.ofInt i)), none], [.int ((31 * ((31 * v) + a1)) + a2), .int 31], M3, c0 + 32 - 16 - 4 - 4, s0 + 192 - 96 - 24 - 24) l_L_state_144 rfl ?_
  refine lr _ (146, [some (.ref b), some (.int v), some (.int (Int32.ofInt i)), none], [.int (31 * ((31 * ((31 * v) + a1)) + a2))], M3, c0 + 32 - 16 - 4 - 4, s0 + 192 - 96 - 24 - 24) l_L_state_145 rfl ?_
  refine lr _ (147, [some (.ref b), some (.int v), some (.int (Int32.ofInt i)), none], [.ref b, .int (31 * ((31 * ((31 * v) + a1)) + a2))], M3, c0 + 32 - 16 - 4 - 4, s0 + 192 - 96 - 24 - 24) l_L_state_146 rfl ?_
  refine lr _ (148, [some (.ref b), some (.int v), some (.int (Int32.ofInt i)), none], [.int (Int32.ofInt i), .ref b, .int (31 * ((31 * ((31 * v) + a1)) + a2))], M3, c0 + 32 - 16 - 4 - 4, s0 + 192 - 96 - 24 - 24) l_L_state_147 rfl ?_
  have hd := o_hoursLeft (w := w) (x := i) (by rw [hw]; omega)
  rw [← ei] at hd
  refine lc_call [Int32.ofInt i] hd O3 (by omega) l_L_state_148 rfl rfl g_X11_hoursLeft (by decide) (by omega) (by omega) rfl rfl (fun R9 h9 => Or.inl ⟨_, _, rfl, h9⟩) (of_v_nr _) (fun M4 O4 F4 => ?_)
  rw [Int.add_zero] at O4
  show mw_Wp sc mw_Good d_L_state 300 (151, [some (.ref b), some (.int v), some (.int (Int32.ofInt i)), none], [.int (Int32.ofInt (sv_left w.1.1 (Int32.ofInt i).toInt)), .int (31 * ((31 * ((31 * v) + a1)) + a2))], M4, c0 + 32 - 16 - 4 - 4 - 4, s0 + 192 - 96 - 24 - 24 - 24) Qr Qx
  rw [ei, hw]
  refine lr _ (152, [some (.ref b), some (.int v), some (.int (Int32.ofInt i)), none], [.int ((31 * ((31 * ((31 * v) + a1)) + a2)) + (Int32.ofInt (sv_left g i)))], M4, c0 + 32 - 16 - 4 - 4 - 4, s0 + 192 - 96 - 24 - 24 - 24) l_L_state_151 rfl ?_
  refine lr _ (154, [some (.ref b), some (.int v), some (.int (Int32.ofInt i)), none], [.int 100, .int ((31 * ((31 * ((31 * v) + a1)) + a2)) + (Int32.ofInt (sv_left g i)))], M4, c0 + 32 - 16 - 4 - 4 - 4, s0 + 192 - 96 - 24 - 24 - 24) l_L_state_152 rfl ?_
  refine lr _ (155, [some (.ref b), some (.int v), some (.int (Int32.ofInt i)), none], [.ref b, .int 100, .int ((31 * ((31 * ((31 * v) + a1)) + a2)) + (Int32.ofInt (sv_left g i)))], M4, c0 + 32 - 16 - 4 - 4 - 4, s0 + 192 - 96 - 24 - 24 - 24) l_L_state_154 rfl ?_
  refine lr _ (156, [some (.ref b), some (.int v), some (.int (Int32.ofInt i)), none], [.int (Int32.ofInt i), .ref b, .int 100, .int ((31 * ((31 * ((31 * v) + a1)) + a2)) + (Int32.ofInt (sv_left g i)))], M4, c0 + 32 - 16 - 4 - 4 - 4, s0 + 192 - 96 - 24 - 24 - 24) l_L_state_155 rfl ?_
  have he := o_loadOf (w := w) (x := i) (by rw [hw]; omega)
  rw [← ei] at he
  refine lc_call [Int32.ofInt i] he O4 (by omega) l_L_state_156 rfl rfl g_X11_loadOf (by decide) (by omega) (by omega) rfl rfl (fun R9 h9 => Or.inl ⟨_, _, rfl, h9⟩) (of_v_nr _) (fun M5 O5 F5 => ?_)
  rw [Int.add_zero] at O5
  show mw_Wp sc mw_Good d_L_state 300 (159, [some (.ref b), some (.int v), some (.int (Int32.ofInt i)), none], [.int (Int32.ofInt (sp_car w.1.1 (Int32.ofInt i).toInt)), .int 100, .int ((31 * ((31 * ((31 * v) + a1)) + a2)) + (Int32.ofInt (sv_left g i)))], M5, c0 + 32 - 16 - 4 - 4 - 4 - 4, s0 + 192 - 96 - 24 - 24 - 24 - 24) Qr Qx
  rw [ei, hw]
  refine lr _ (160, [some (.ref b), some (.int v), some (.int (Int32.ofInt i)), none], [.int (100 * (Int32.ofInt (sp_car g i))), .int ((31 * ((31 * ((31 * v) + a1)) + a2)) + (Int32.ofInt (sv_left g i)))], M5, c0 + 32 - 16 - 4 - 4 - 4 - 4, s0 + 192 - 96 - 24 - 24 - 24 - 24) l_L_state_159 rfl ?_
  refine lr _ (161, [some (.ref b), some (.int v), some (.int (Int32.ofInt i)), none], [.int (((31 * ((31 * ((31 * v) + a1)) + a2)) + (Int32.ofInt (sv_left g i))) + (100 * (Int32.ofInt (sp_car g i))))], M5, c0 + 32 - 16 - 4 - 4 - 4 - 4, s0 + 192 - 96 - 24 - 24 - 24 - 24) l_L_state_160 rfl ?_
  refine lr _ (162, [some (.ref b), some (.int (((31 * ((31 * ((31 * v) + a1)) + a2)) + (Int32.ofInt (sv_left g i))) + (100 * (Int32.ofInt (sp_car g i))))), some (.int (Int32.ofInt i)), none], [], M5, c0 + 32 - 16 - 4 - 4 - 4 - 4, s0 + 192 - 96 - 24 - 24 - 24 - 24) l_L_state_161 rfl ?_
  refine lr _ (165, [some (.ref b), some (.int (((31 * ((31 * ((31 * v) + a1)) + a2)) + (Int32.ofInt (sv_left g i))) + (100 * (Int32.ofInt (sp_car g i))))), some (.int ((Int32.ofInt i) + 1)), none], [], M5, c0 + 32 - 16 - 4 - 4 - 4 - 4, s0 + 192 - 96 - 24 - 24 - 24 - 24) l_L_state_162 rfl ?_
  refine lr _ (108, [some (.ref b), some (.int (((31 * ((31 * ((31 * v) + a1)) + a2)) + (Int32.ofInt (sv_left g i))) + (100 * (Int32.ofInt (sp_car g i))))), some (.int ((Int32.ofInt i) + 1)), none], [], M5, c0 + 32 - 16 - 4 - 4 - 4 - 4, s0 + 192 - 96 - 24 - 24 - 24 - 24) l_L_state_165 rfl ?_
  exact mw_Wp.less (Nat.le_refl _) (by omega) (by omega) (K M5 (by rw [Int.add_zero]; exact O5) ((((F1.trans F2).trans F3).trans F4).trans F5))
theorem st_fx (g : Int → Int) (v : Int32) : Sq sc g d_L_state 108 (fun b => [some (.ref b), some (.int v), some (.int (Int32.ofInt (g 3))), none]) 168 (fun b => [some (.ref b), some (.int v), some (.int (Int32.ofInt (g 3))), none]) 16 96 := by
  refine fun w hw b sb M B Qr Qx c0 s0 hO hB K => ?_
  show mw_Wp sc mw_Good d_L_state 300 (108, [some (.ref b), some (.int v), some (.int (Int32.ofInt (g 3))), none], [], M, c0 + 16, s0 + 96) Qr Qx
  refine lr _ (109, [some (.ref b), some (.int v), some (.int (Int32.ofInt (g 3))), none], [.int (Int32.ofInt (g 3))], M, c0 + 16, s0 + 96) l_L_state_108 rfl ?_
  refine lr _ (110, [some (.ref b), some (.int v), some (.int (Int32.ofInt (g 3))), none], [.ref b, .int (Int32.ofInt (g 3))], M, c0 + 16, s0 + 96) l_L_state_109 rfl ?_
  refine lc_own [] _ (t_ferries g w hw) hO (by omega) l_L_state_110 rfl rfl g_L_ferries (by decide) (by omega) (by omega) True.intro rfl rfl (fun M1 O1 F1 => ?_)
  show mw_Wp sc mw_Good d_L_state 300 (113, [some (.ref b), some (.int v), some (.int (Int32.ofInt (g 3))), none], [.int (Int32.ofInt (g 3)), .int (Int32.ofInt (g 3))], M1, c0 + 16 - 16, s0 + 96 - 96) Qr Qx
  rw [Int.add_zero] at O1
  refine lbT _ ((Int32.ofInt (g 3)) ≤ (Int32.ofInt (g 3))) (168, [some (.ref b), some (.int v), some (.int (Int32.ofInt (g 3))), none], [], M1, c0 + 16 - 16, s0 + 96 - 96) (116, [some (.ref b), some (.int v), some (.int (Int32.ofInt (g 3))), none], [], M1, c0 + 16 - 16, s0 + 96 - 96) l_L_state_113 rfl (Int32.le_refl _) ?_
  exact mw_Wp.less (Nat.le_refl _) (by omega) (by omega) (K M1 (by rw [Int.add_zero]; exact O1) F1)
theorem st_fer (g : Int → Int) (h3 : 0 ≤ g 3 ∧ g 3 ≤ 3) (v : Int32) : ∃ v', Sq sc g d_L_state 108 (fun b => [some (.ref b), some (.int v), some (.int (Int32.ofInt 0)), none]) 168 (fun b => [some (.ref b), some (.int v'), some (.int (Int32.ofInt (g 3))), none]) 112 672 := by
  obtain ⟨v', h⟩ := Sq.loop (sc := sc) (g := g) (cd := d_L_state) (H := 108) (X := 168) (L := fun v k b => [some (.ref b), some (.int v), some (.int k), none]) (m := g 3) (c := 32) (s := 192) (ce := 16) (se := 96) (fun i v i0 i1 => st_f g h3.2 i v i0 i1) (fun v => st_fx g v) (g 3).toNat 0 v (by decide) (by omega)
  exact ⟨v', h.more (by omega) (by omega)⟩
theorem n_5 {v : Int} (h : 0 ≤ v ∧ v < 128) : 1000500 ≤ 1000628 + v.toNat ∧ 1000628 + v.toNat < 1000756 := by omega
theorem plc_moon {g : Int → Int} {k : Int} (k0 : 0 ≤ k) (k1 : k < g 4) : ¬ sp_plcF g (g (71 + k)) = -1 := by
  intro e
  have h := sp_plcF_spec g (g (71 + k))
  rw [e] at h
  rcases h with ⟨_, h⟩ | ⟨h, _⟩
  · exact h k k0 k1 rfl
  · exact absurd h (by decide)
theorem st_moon {g : Int → Int} (hI : Inv g 4000000) (h5 : g 5 ≤ 128) : ∀ (r k : Nat) (v : Int32), k + r = (g 4).toNat → ∃ v', ∀ (w : of_S) (b sb l i : Nat) (M : mw_Mem) (B : Int) (Qr : Option Value → mw_Mem → Prop) (Qx : Nat → mw_Mem → Prop) (c0 s0 : Nat), w.1.1 = g → Off b sb M w B → B ≤ 4000000 → (b + 303 ≤ l ∧ b + sb < l) → Lst M l (g 4).toNat (g 4).toNat (fun k => g (71 + k)) → Itr M i l (g 4).toNat k → (∀ e, M.2.2.2.1 l 1 = some e → ¬ e = i) → (∀ x, 1000000 ≤ x → M.2.2.2.2.1 x = none) → 16 * r ≤ c0 → 96 * r ≤ s0 → (∀ M', Off b sb M' w B → (M.2.2.2.2.2 ≤ M'.2.2.2.2.2 ∧ (∀ x, x < l → ¬ (b ≤ x ∧ x < b + 303) → ¬ x = b + sb → hq M M' x) ∧ KN M M') → Qr (some (.int v')) M') → mw_Wp sc mw_Good d_L_state 300 (176, [some (.ref b), some (.int v), some (.ref i), none], [], M, c0, s0) Qr Qx := by
  have h4 := hI.mo
  intro r
  induction r with
  | zero =>
    intro k v hk
    refine ⟨v, fun w b sb l i M B Qr Qx c0 s0 hw hO hB hl hL hT he hkn hc hs K => ?_⟩
    show mw_Wp sc mw_Good d_L_state 300 (176, [some (.ref b), some (.int v), some (.ref i), none], [], M, c0, s0) Qr Qx
    refine lr _ (177, [some (.ref b), some (.int v), some (.ref i), none], [.ref i], M, c0, s0) l_L_state_176 rfl ?_
    refine mw_Wp.cal0 _ d_Jx35411_hasNext_aae02 0 l_L_state_177 rfl rfl g_Jx35411_hasNext_aae02 (by decide) ⟨_, _, rfl, hT.1.2.2.2⟩ hkn ?_
    refine t_hasE hL hT (by omega) ⟨⟨hkn, fun x _ _ => hq.refl⟩, ?_⟩
    show mw_Wp sc mw_Good d_L_state 300 (182, [some (.ref b), some (.int v), some (.ref i), none], [.int 0], M, c0, s0) Qr Qx
    refine lbT _ (0 = 0) (252, [some (.ref b), some (.int v), some (.ref i), none], [], M, c0, s0) (185, [some (.ref b), some (.int v), some (.ref i), none], [], M, c0, s0) l_L_state_182 rfl rfl ?_
    refine lr _ (253, [some (.ref b), some (.int v), some (.ref i), none], [.int v], M, c0, s0) l_L_state_252 rfl ?_
    exact lt_ret _ (some (.int v)) l_L_state_253 rfl (K M hO ⟨Nat.le_refl _, fun x _ _ _ => hq.refl, fun _ _ h => h⟩)
  | succ r ih =>
    intro k v hk
    obtain ⟨a1, h1⟩ := x_act18 (sc := sc) g (Int32.ofInt (g (71 + (k : Int)))) 0 0
    obtain ⟨a2, h2⟩ := x_act19 (sc := sc) g (Int32.ofInt (g (71 + (k : Int)))) 0 0
    obtain ⟨v', ih⟩ := ih (k + 1) (((31 * (((31 * ((31 * v) + (Int32.ofInt (g (71 + (k : Int)))))) + a1) + (10 * a2))) + (Int32.ofInt (g (111 + sp_plcF g (g (71 + (k : Int))))))) + (10 * (Int32.ofInt (sp_fare g (sp_plcF g (g (71 + (k : Int)))))))) (by omega)
    refine ⟨v', fun w b sb l i M B Qr Qx c0 s0 hw hO hB hl hL hT he hkn hc hs K => ?_⟩
    have mk := hI.moo k (by omega) (by omega)
    have em : (Int32.ofInt (g (71 + (k : Int)))).toInt = g (71 + (k : Int)) := nw_ti ⟨by omega, by omega⟩
    show mw_Wp sc mw_Good d_L_state 300 (176, [some (.ref b), some (.int v), some (.ref i), none], [], M, c0, s0) Qr Qx
    refine lr _ (177, [some (.ref b), some (.int v), some (.ref i), none], [.ref i], M, c0, s0) l_L_state_176 rfl ?_
    refine mw_Wp.cal0 _ d_Jx35411_hasNext_aae02 0 l_L_state_177 rfl rfl g_Jx35411_hasNext_aae02 (by decide) ⟨_, _, rfl, hT.1.2.2.2⟩ hkn ?_
    refine t_hasN hL hT (by omega) ⟨⟨hkn, fun x _ _ => hq.refl⟩, ?_⟩
    show mw_Wp sc mw_Good d_L_state 300 (182, [some (.ref b), some (.int v), some (.ref i), none], [.int 1], M, c0, s0) Qr Qx
    refine lbF _ (1 = 0) (252, [some (.ref b), some (.int v), some (.ref i), none], [], M, c0, s0) (185, [some (.ref b), some (.int v), some (.ref i), none], [], M, c0, s0) l_L_state_182 rfl (by decide) ?_
    refine lr _ (186, [some (.ref b), some (.int v), some (.ref i), none], [.ref i], M, c0, s0) l_L_state_185 rfl ?_
    refine mw_Wp.cal0 _ d_Jx35411_next_0502b 1 l_L_state_186 rfl rfl g_Jx35411_next_0502b (by decide) ⟨_, _, rfl, hT.1.2.2.2⟩ hkn ?_
    refine t_next hL hT (by omega) he (by decide) (fun M0 L0 T0 Q0 n0 k0 => ⟨⟨fun x hx => k0 x hx (hkn x hx), fun x hx hz => Q0 x (fun e => ?_)⟩, ?_⟩)
    · rw [e, hT.1.2.2.2] at hz
      cases hz
    show mw_Wp sc mw_Good d_L_state 300 (191, [some (.ref b), some (.int v), some (.ref i), none], [.ref (1000628 + (g (71 + (k : Int))).toNat)], M0, c0, s0) Qr Qx
    have hck : mw_ins sc d_L_state.2.2.2.1 ((.checkcast 136), 3, (0, 0, 0), [8166], mw_nm, 0) 191 [some (.ref b), some (.int v), some (.ref i), none] [.ref (1000628 + (g (71 + (k : Int))).toNat)] M0 c0 s0 = some (.inl (194, [some (.ref b), some (.int v), some (.ref i), none], [.ref (1000628 + (g (71 + (k : Int))).toNat)], M0, c0, s0)) := by
      unfold mw_ins
      dsimp only
      rw [if_pos (n_5 (by omega))]
      rfl
    refine lr _ _ l_L_state_191 hck ?_
    have hkn0 : ∀ x, 1000000 ≤ x → M0.2.2.2.2.1 x = none := fun x hx => k0 x hx (hkn x hx)
    refine mw_Wp.cal _ d_J6_intValue_8abf5 0 0 0 l_L_state_194 rfl rfl g_J6_intValue_8abf5 (by decide) (Nat.zero_le _) (Nat.zero_le _) (Or.inr (Or.inr ⟨rfl, _, rfl, n_5 (by omega)⟩)) ?_
    refine t_intV (v := g (71 + (k : Int))) (by omega) hkn0 ?_
    show mw_Wp sc mw_Good d_L_state 300 (197, [some (.ref b), some (.int v), some (.ref i), none], [.int (Int32.ofInt (g (71 + (k : Int))))], M0, c0 - 0, s0 - 0) Qr Qx
    have il : b + 303 ≤ i ∧ b + sb < i := by have := hT.1.2.1; omega
    have O0 : Off b sb M0 w B := hO.fr (by omega) (fun x hx => Q0 x (by omega))
    refine lr _ (198, [some (.ref b), some (.int v), some (.ref i), some (.int (Int32.ofInt (g (71 + (k : Int)))))], [], M0, c0 - 0, s0 - 0) l_L_state_197 rfl ?_
    refine lr _ (200, [some (.ref b), some (.int v), some (.ref i), some (.int (Int32.ofInt (g (71 + (k : Int)))))], [.int 31], M0, c0 - 0, s0 - 0) l_L_state_198 rfl ?_
    refine lr _ (202, [some (.ref b), some (.int v), some (.ref i), some (.int (Int32.ofInt (g (71 + (k : Int)))))], [.int 31, .int 31], M0, c0 - 0, s0 - 0) l_L_state_200 rfl ?_
    refine lr _ (204, [some (.ref b), some (.int v), some (.ref i), some (.int (Int32.ofInt (g (71 + (k : Int)))))], [.int 31, .int 31, .int 31], M0, c0 - 0, s0 - 0) l_L_state_202 rfl ?_
    refine lr _ (205, [some (.ref b), some (.int v), some (.ref i), some (.int (Int32.ofInt (g (71 + (k : Int)))))], [.int v, .int 31, .int 31, .int 31], M0, c0 - 0, s0 - 0) l_L_state_204 rfl ?_
    refine lr _ (206, [some (.ref b), some (.int v), some (.ref i), some (.int (Int32.ofInt (g (71 + (k : Int)))))], [.int (31 * v), .int 31, .int 31], M0, c0 - 0, s0 - 0) l_L_state_205 rfl ?_
    refine lr _ (207, [some (.ref b), some (.int v), some (.ref i), some (.int (Int32.ofInt (g (71 + (k : Int)))))], [.int (Int32.ofInt (g (71 + (k : Int)))), .int (31 * v), .int 31, .int 31], M0, c0 - 0, s0 - 0) l_L_state_206 rfl ?_
    refine lr _ (208, [some (.ref b), some (.int v), some (.ref i), some (.int (Int32.ofInt (g (71 + (k : Int)))))], [.int ((31 * v) + (Int32.ofInt (g (71 + (k : Int))))), .int 31, .int 31], M0, c0 - 0, s0 - 0) l_L_state_207 rfl ?_
    refine lr _ (209, [some (.ref b), some (.int v), some (.ref i), some (.int (Int32.ofInt (g (71 + (k : Int)))))], [.int (31 * ((31 * v) + (Int32.ofInt (g (71 + (k : Int)))))), .int 31], M0, c0 - 0, s0 - 0) l_L_state_208 rfl ?_
    refine lr _ (210, [some (.ref b), some (.int v), some (.ref i), some (.int (Int32.ofInt (g (71 + (k : Int)))))], [.ref b, .int (31 * ((31 * v) + (Int32.ofInt (g (71 + (k : Int)))))), .int 31], M0, c0 - 0, s0 - 0) l_L_state_209 rfl ?_
    refine lr _ (212, [some (.ref b), some (.int v), some (.ref i), some (.int (Int32.ofInt (g (71 + (k : Int)))))], [.int 18, .ref b, .int (31 * ((31 * v) + (Int32.ofInt (g (71 + (k : Int)))))), .int 31], M0, c0 - 0, s0 - 0) l_L_state_210 rfl ?_
    refine lr _ (213, [some (.ref b), some (.int v), some (.ref i), some (.int (Int32.ofInt (g (71 + (k : Int)))))], [.int (Int32.ofInt (g (71 + (k : Int)))), .int 18, .ref b, .int (31 * ((31 * v) + (Int32.ofInt (g (71 + (k : Int)))))), .int 31], M0, c0 - 0, s0 - 0) l_L_state_212 rfl ?_
    refine lr _ (214, [some (.ref b), some (.int v), some (.ref i), some (.int (Int32.ofInt (g (71 + (k : Int)))))], [.int 0, .int (Int32.ofInt (g (71 + (k : Int)))), .int 18, .ref b, .int (31 * ((31 * v) + (Int32.ofInt (g (71 + (k : Int)))))), .int 31], M0, c0 - 0, s0 - 0) l_L_state_213 rfl ?_
    refine lr _ (215, [some (.ref b), some (.int v), some (.ref i), some (.int (Int32.ofInt (g (71 + (k : Int)))))], [.int 0, .int 0, .int (Int32.ofInt (g (71 + (k : Int)))), .int 18, .ref b, .int (31 * ((31 * v) + (Int32.ofInt (g (71 + (k : Int)))))), .int 31], M0, c0 - 0, s0 - 0) l_L_state_214 rfl ?_
    refine lc_own [18, Int32.ofInt (g (71 + (k : Int))), 0, 0] _ (h1 w hw) O0 (by omega) l_L_state_215 rfl rfl g_L_act (by decide) (by omega) (by omega) True.intro rfl rfl (fun M1 O1 F1 => ?_)
    show mw_Wp sc mw_Good d_L_state 300 (218, [some (.ref b), some (.int v), some (.ref i), some (.int (Int32.ofInt (g (71 + (k : Int)))))], [.int a1, .int (31 * ((31 * v) + (Int32.ofInt (g (71 + (k : Int)))))), .int 31], M1, c0 - 0 - 4, s0 - 0 - 24) Qr Qx
    rw [Int.add_zero] at O1
    refine lr _ (219, [some (.ref b), some (.int v), some (.ref i), some (.int (Int32.ofInt (g (71 + (k : Int)))))], [.int ((31 * ((31 * v) + (Int32.ofInt (g (71 + (k : Int)))))) + a1), .int 31], M1, c0 - 0 - 4, s0 - 0 - 24) l_L_state_218 rfl ?_
    refine lr _ (221, [some (.ref b), some (.int v), some (.ref i), some (.int (Int32.ofInt (g (71 + (k : Int)))))], [.int 10, .int ((31 * ((31 * v) + (Int32.ofInt (g (71 + (k : Int)))))) + a1), .int 31], M1, c0 - 0 - 4, s0 - 0 - 24) l_L_state_219 rfl ?_
    refine lr _ (222, [some (.ref b), some (.int v), some (.ref i), some (.int (Int32.ofInt (g (71 + (k : Int)))))], [.ref b, .int 10, .int ((31 * ((31 * v) + (Int32.ofInt (g (71 + (k : Int)))))) + a1), .int 31], M1, c0 - 0 - 4, s0 - 0 - 24) l_L_state_221 rfl ?_
    refine lr _ (224, [some (.ref b), some (.int v), some (.ref i), some (.int (Int32.ofInt (g (71 + (k : Int)))))], [.int 19, .ref b, .int 10, .int ((31 * ((31 * v) + (Int32.ofInt (g (71 + (k : Int)))))) + a1), .int 31], M1, c0 - 0 - 4, s0 - 0 - 24) l_L_state_222 rfl ?_
    refine lr _ (225, [some (.ref b), some (.int v), some (.ref i), some (.int (Int32.ofInt (g (71 + (k : Int)))))], [.int (Int32.ofInt (g (71 + (k : Int)))), .int 19, .ref b, .int 10, .int ((31 * ((31 * v) + (Int32.ofInt (g (71 + (k : Int)))))) + a1), .int 31], M1, c0 - 0 - 4, s0 - 0 - 24) l_L_state_224 rfl ?_
    refine lr _ (226, [some (.ref b), some (.int v), some (.ref i), some (.int (Int32.ofInt (g (71 + (k : Int)))))], [.int 0, .int (Int32.ofInt (g (71 + (k : Int)))), .int 19, .ref b, .int 10, .int ((31 * ((31 * v) + (Int32.ofInt (g (71 + (k : Int)))))) + a1), .int 31], M1, c0 - 0 - 4, s0 - 0 - 24) l_L_state_225 rfl ?_
    refine lr _ (227, [some (.ref b), some (.int v), some (.ref i), some (.int (Int32.ofInt (g (71 + (k : Int)))))], [.int 0, .int 0, .int (Int32.ofInt (g (71 + (k : Int)))), .int 19, .ref b, .int 10, .int ((31 * ((31 * v) + (Int32.ofInt (g (71 + (k : Int)))))) + a1), .int 31], M1, c0 - 0 - 4, s0 - 0 - 24) l_L_state_226 rfl ?_
    refine lc_own [19, Int32.ofInt (g (71 + (k : Int))), 0, 0] _ (h2 w hw) O1 (by omega) l_L_state_227 rfl rfl g_L_act (by decide) (by omega) (by omega) True.intro rfl rfl (fun M2 O2 F2 => ?_)
    show mw_Wp sc mw_Good d_L_state 300 (230, [some (.ref b), some (.int v), some (.ref i), some (.int (Int32.ofInt (g (71 + (k : Int)))))], [.int a2, .int 10, .int ((31 * ((31 * v) + (Int32.ofInt (g (71 + (k : Int)))))) + a1), .int 31], M2, c0 - 0 - 4 - 4, s0 - 0 - 24 - 24) Qr Qx
    rw [Int.add_zero] at O2
    have np := plc_moon (g := g) (k := (k : Int)) (by omega) (by omega)
    refine lr _ (231, [some (.ref b), some (.int v), some (.ref i), some (.int (Int32.ofInt (g (71 + (k : Int)))))], [.int (10 * a2), .int ((31 * ((31 * v) + (Int32.ofInt (g (71 + (k : Int)))))) + a1), .int 31], M2, c0 - 0 - 4 - 4, s0 - 0 - 24 - 24) l_L_state_230 rfl ?_
    refine lr _ (232, [some (.ref b), some (.int v), some (.ref i), some (.int (Int32.ofInt (g (71 + (k : Int)))))], [.int (((31 * ((31 * v) + (Int32.ofInt (g (71 + (k : Int)))))) + a1) + (10 * a2)), .int 31], M2, c0 - 0 - 4 - 4, s0 - 0 - 24 - 24) l_L_state_231 rfl ?_
    refine lr _ (233, [some (.ref b), some (.int v), some (.ref i), some (.int (Int32.ofInt (g (71 + (k : Int)))))], [.int (31 * (((31 * ((31 * v) + (Int32.ofInt (g (71 + (k : Int)))))) + a1) + (10 * a2)))], M2, c0 - 0 - 4 - 4, s0 - 0 - 24 - 24) l_L_state_232 rfl ?_
    refine lr _ (234, [some (.ref b), some (.int v), some (.ref i), some (.int (Int32.ofInt (g (71 + (k : Int)))))], [.ref b, .int (31 * (((31 * ((31 * v) + (Int32.ofInt (g (71 + (k : Int)))))) + a1) + (10 * a2)))], M2, c0 - 0 - 4 - 4, s0 - 0 - 24 - 24) l_L_state_233 rfl ?_
    refine lr _ (235, [some (.ref b), some (.int v), some (.ref i), some (.int (Int32.ofInt (g (71 + (k : Int)))))], [.int (Int32.ofInt (g (71 + (k : Int)))), .ref b, .int (31 * (((31 * ((31 * v) + (Int32.ofInt (g (71 + (k : Int)))))) + a1) + (10 * a2)))], M2, c0 - 0 - 4 - 4, s0 - 0 - 24 - 24) l_L_state_234 rfl ?_
    have hp := o_phaseOf (w := w) (x := g (71 + (k : Int))) (by rw [hw]; exact np)
    rw [← em] at hp
    refine lc_call [Int32.ofInt (g (71 + (k : Int)))] hp O2 (by omega) l_L_state_235 rfl rfl g_X11_phaseOf (by decide) (by omega) (by omega) rfl rfl (fun R9 h9 => Or.inl ⟨_, _, rfl, h9⟩) (of_v_nr _) (fun M3 O3 F3 => ?_)
    rw [Int.add_zero] at O3
    show mw_Wp sc mw_Good d_L_state 300 (238, [some (.ref b), some (.int v), some (.ref i), some (.int (Int32.ofInt (g (71 + (k : Int)))))], [.int (Int32.ofInt (w.1.1 (111 + sp_plcF w.1.1 (Int32.ofInt (g (71 + (k : Int)))).toInt))), .int (31 * (((31 * ((31 * v) + (Int32.ofInt (g (71 + (k : Int)))))) + a1) + (10 * a2)))], M3, c0 - 0 - 4 - 4 - 4, s0 - 0 - 24 - 24 - 24) Qr Qx
    rw [em, hw]
    refine lr _ (239, [some (.ref b), some (.int v), some (.ref i), some (.int (Int32.ofInt (g (71 + (k : Int)))))], [.int ((31 * (((31 * ((31 * v) + (Int32.ofInt (g (71 + (k : Int)))))) + a1) + (10 * a2))) + (Int32.ofInt (g (111 + sp_plcF g (g (71 + (k : Int)))))))], M3, c0 - 0 - 4 - 4 - 4, s0 - 0 - 24 - 24 - 24) l_L_state_238 rfl ?_
    refine lr _ (241, [some (.ref b), some (.int v), some (.ref i), some (.int (Int32.ofInt (g (71 + (k : Int)))))], [.int 10, .int ((31 * (((31 * ((31 * v) + (Int32.ofInt (g (71 + (k : Int)))))) + a1) + (10 * a2))) + (Int32.ofInt (g (111 + sp_plcF g (g (71 + (k : Int)))))))], M3, c0 - 0 - 4 - 4 - 4, s0 - 0 - 24 - 24 - 24) l_L_state_239 rfl ?_
    refine lr _ (242, [some (.ref b), some (.int v), some (.ref i), some (.int (Int32.ofInt (g (71 + (k : Int)))))], [.ref b, .int 10, .int ((31 * (((31 * ((31 * v) + (Int32.ofInt (g (71 + (k : Int)))))) + a1) + (10 * a2))) + (Int32.ofInt (g (111 + sp_plcF g (g (71 + (k : Int)))))))], M3, c0 - 0 - 4 - 4 - 4, s0 - 0 - 24 - 24 - 24) l_L_state_241 rfl ?_
    refine lr _ (243, [some (.ref b), some (.int v), some (.ref i), some (.int (Int32.ofInt (g (71 + (k : Int)))))], [.int (Int32.ofInt (g (71 + (k : Int)))), .ref b, .int 10, .int ((31 * (((31 * ((31 * v) + (Int32.ofInt (g (71 + (k : Int)))))) + a1) + (10 * a2))) + (Int32.ofInt (g (111 + sp_plcF g (g (71 + (k : Int)))))))], M3, c0 - 0 - 4 - 4 - 4, s0 - 0 - 24 - 24 - 24) l_L_state_242 rfl ?_
    have hf := o_fareOf (w := w) (x := g (71 + (k : Int))) (by rw [hw]; exact np)
    rw [← em] at hf
    refine lc_call [Int32.ofInt (g (71 + (k : Int)))] hf O3 (by omega) l_L_state_243 rfl rfl g_X11_fareOf (by decide) (by omega) (by omega) rfl rfl (fun R9 h9 => Or.inl ⟨_, _, rfl, h9⟩) (of_v_nr _) (fun M4 O4 F4 => ?_)
    rw [Int.add_zero] at O4
    show mw_Wp sc mw_Good d_L_state 300 (246, [some (.ref b), some (.int v), some (.ref i), some (.int (Int32.ofInt (g (71 + (k : Int)))))], [.int (Int32.ofInt (sp_fare w.1.1 (sp_plcF w.1.1 (Int32.ofInt (g (71 + (k : Int)))).toInt))), .int 10, .int ((31 * (((31 * ((31 * v) + (Int32.ofInt (g (71 + (k : Int)))))) + a1) + (10 * a2))) + (Int32.ofInt (g (111 + sp_plcF g (g (71 + (k : Int)))))))], M4, c0 - 0 - 4 - 4 - 4 - 4, s0 - 0 - 24 - 24 - 24 - 24) Qr Qx
    rw [em, hw]
    refine lr _ (247, [some (.ref b), some (.int v), some (.ref i), some (.int (Int32.ofInt (g (71 + (k : Int)))))], [.int (10 * (Int32.ofInt (sp_fare g (sp_plcF g (g (71 + (k : Int))))))), .int ((31 * (((31 * ((31 * v) + (Int32.ofInt (g (71 + (k : Int)))))) + a1) + (10 * a2))) + (Int32.ofInt (g (111 + sp_plcF g (g (71 + (k : Int)))))))], M4, c0 - 0 - 4 - 4 - 4 - 4, s0 - 0 - 24 - 24 - 24 - 24) l_L_state_246 rfl ?_
    refine lr _ (248, [some (.ref b), some (.int v), some (.ref i), some (.int (Int32.ofInt (g (71 + (k : Int)))))], [.int (((31 * (((31 * ((31 * v) + (Int32.ofInt (g (71 + (k : Int)))))) + a1) + (10 * a2))) + (Int32.ofInt (g (111 + sp_plcF g (g (71 + (k : Int))))))) + (10 * (Int32.ofInt (sp_fare g (sp_plcF g (g (71 + (k : Int))))))))], M4, c0 - 0 - 4 - 4 - 4 - 4, s0 - 0 - 24 - 24 - 24 - 24) l_L_state_247 rfl ?_
    refine lr _ (249, [some (.ref b), some (.int (((31 * (((31 * ((31 * v) + (Int32.ofInt (g (71 + (k : Int)))))) + a1) + (10 * a2))) + (Int32.ofInt (g (111 + sp_plcF g (g (71 + (k : Int))))))) + (10 * (Int32.ofInt (sp_fare g (sp_plcF g (g (71 + (k : Int))))))))), some (.ref i), some (.int (Int32.ofInt (g (71 + (k : Int)))))], [], M4, c0 - 0 - 4 - 4 - 4 - 4, s0 - 0 - 24 - 24 - 24 - 24) l_L_state_248 rfl ?_
    refine lr _ (176, [some (.ref b), some (.int (((31 * (((31 * ((31 * v) + (Int32.ofInt (g (71 + (k : Int)))))) + a1) + (10 * a2))) + (Int32.ofInt (g (111 + sp_plcF g (g (71 + (k : Int))))))) + (10 * (Int32.ofInt (sp_fare g (sp_plcF g (g (71 + (k : Int))))))))), some (.ref i), some (.int (Int32.ofInt (g (71 + (k : Int)))))], [], M4, c0 - 0 - 4 - 4 - 4 - 4, s0 - 0 - 24 - 24 - 24 - 24) l_L_state_249 rfl ?_
    have F := ((F1.trans F2).trans F3).trans F4
    have hl0 : l < i := hT.1.2.1
    refine mw_Wp.wkl (ls' := [some (.ref b), some (.int (((31 * (((31 * ((31 * v) + (Int32.ofInt (g (71 + (k : Int)))))) + a1) + (10 * a2))) + (Int32.ofInt (g (111 + sp_plcF g (g (71 + (k : Int))))))) + (10 * (Int32.ofInt (sp_fare g (sp_plcF g (g (71 + (k : Int))))))))), some (.ref i), none]) ⟨rfl, rfl, rfl, True.intro, True.intro⟩ ?_
    refine ih w b sb l i M4 B Qr Qx _ _ hw O4 hB hl (L0.mono F.1 (fun x x0 x1 => F.2.1 x x1 (by omega) (by omega))) (T0.mono F.1 (F.2.1 i T0.1.2.2.1 (by omega) (by omega))) (fun e h9 => he e ?_) (fun x hx => F.2.2 x hx (hkn0 x hx)) (by omega) (by omega) (fun M' O' F' => K M' O' ⟨by have := F.1; have := F'.1; omega, fun x a b9 c9 => ((Q0 x (by omega)).trans (F.2.1 x (by have := hL.2.1.2.1; omega) b9 c9)).trans (F'.2.1 x a b9 c9), fun x a e => F'.2.2 x a (F.2.2 x a (k0 x a e))⟩)
    rw [← h9, congrFun (F.2.1 l (by have := L0.2.1.2.1; omega) (by omega) (by omega)).2.2.2.1 1]
    exact (congrFun (Q0 l (by omega)).2.2.2.1 1).symm
/-- state is fixed by the office's state -/
theorem t_state (g : Int → Int) (h5 : g 5 ≤ 128) : ∃ v, ∀ (w : of_S) (b sb : Nat) (M : mw_Mem) (B : Int) (Qr : Option Value → mw_Mem → Prop) (Qx : Nat → mw_Mem → Prop), w.1.1 = g → Off b sb M w B → B ≤ 4000000 → (∀ x, 1000000 ≤ x → M.2.2.2.2.1 x = none) → (∀ M', Off b sb M' w B → Fr b sb M M' → Qr (some (.int v)) M') → mw_Wp sc mw_Good d_L_state 300 (0, [some (.ref b), none, none, none], [], M, 1000, 6000) Qr Qx := by
  by_cases hI : Inv g 4000000
  case neg =>
    refine ⟨0, fun w b sb M B Qr Qx hw hO hB _ _ => ?_⟩
    have i := hO.inv.1
    rw [hw] at i
    exact absurd (i.up i.bd.2 (Int.le_refl _)) hI
  have hcr := hI.cr
  have h3 := hI.fe
  have h4 := hI.mo
  obtain ⟨v0, s0⟩ := st_0 (sc := sc) g
  obtain ⟨v1, s1⟩ := st_out (sc := sc) g hcr v0
  obtain ⟨v2, s2⟩ := st_fer (sc := sc) g h3 v1
  obtain ⟨v3, s3⟩ := st_moon (sc := sc) hI h5 (g 4).toNat 0 v2 (by omega)
  have s := ((s0.trans s1).trans (st_l g)).trans s2
  refine ⟨v3, fun w b sb M B Qr Qx hw hO hB hkn K => ?_⟩
  refine mw_Wp.less (Nat.le_refl _) (by decide) (by decide) (s w hw b sb M B Qr Qx 400 2500 hO (by omega) (fun M1 O1 F1 => ?_))
  rw [Int.add_zero] at O1
  have hkn1 : ∀ x, 1000000 ≤ x → M1.2.2.2.2.1 x = none := fun x hx => F1.2.2 x hx (hkn x hx)
  have kd1 := O1.kd
  show mw_Wp sc mw_Good d_L_state 300 (168, [some (.ref b), some (.int v2), some (.int (Int32.ofInt (g 3))), none], [], M1, 400, 2500) Qr Qx
  refine lr _ (169, [some (.ref b), some (.int v2), some (.int (Int32.ofInt (g 3))), none], [.ref b], M1, 400, 2500) l_L_state_168 rfl ?_
  refine mw_Wp.cal _ d_L_moons 24 150 900 l_L_state_169 rfl rfl g_L_moons (by decide) (by decide) (by decide) True.intro ?_
  refine t_moons h5 hw O1 hB hkn1 (fun M2 O2 F2 L2 => ?_)
  have hkn2 : ∀ x, 1000000 ≤ x → M2.2.2.2.2.1 x = none := fun x hx => F2.2.2 x hx (hkn1 x hx)
  have kd2 := O2.kd
  obtain ⟨l, hl⟩ : ∃ l, l = M1.2.2.2.2.2 := ⟨_, rfl⟩
  rw [← hl] at L2 ⊢
  show mw_Wp sc mw_Good d_L_state 300 (172, [some (.ref b), some (.int v2), some (.int (Int32.ofInt (g 3))), none], [.ref l], M2, 250, 1600) Qr Qx
  refine mw_Wp.fact (fun hM2 => ?_)
  have hM2 : M2.2.2.2.2.2 ≤ 990000 := hM2
  refine mw_Wp.cal _ d_Jx4a65c_iterator_32c93 1 1 4 l_L_state_172 rfl rfl g_Jx4a65c_iterator_32c93 (by decide) (by decide) (by decide) (Or.inl ⟨_, _, rfl, L2.2.1.2.2⟩) ?_
  refine t_iter L2 (by omega) (by decide) (fun M3 L3 T3 F3 => ?_)
  obtain ⟨i, hi⟩ : ∃ i, i = M2.2.2.2.2.2 := ⟨_, rfl⟩
  rw [← hi] at T3 F3 ⊢
  show mw_Wp sc mw_Good d_L_state 300 (175, [some (.ref b), some (.int v2), some (.int (Int32.ofInt (g 3))), none], [.ref i], M3, 249, 1596) Qr Qx
  refine lr _ (176, [some (.ref b), some (.int v2), some (.ref i), none], [], M3, 249, 1596) l_L_state_175 rfl ?_
  have hli : l < i := by have := L2.2.1.2.1; omega
  have O3 : Off b sb M3 w B := O2.fr F3.1 (fun x hx => F3.2.1 x (by omega))
  refine s3 w b sb l i M3 B Qr Qx 249 1596 hw O3 hB (by omega) L3 T3 (fun e h9 => ?_) (fun x hx => F3.2.2 x hx (hkn2 x hx)) (by omega) (by omega) (fun M4 O4 F4 => K M4 O4 ⟨?_, fun x a b9 c9 => ?_, fun x a e => F4.2.2 x a (F3.2.2 x a (F2.2.2 x a (F1.2.2 x a e)))⟩)
  · rw [congrFun (F3.2.1 l (by omega)).2.2.2.1 1] at h9
    rcases L2.2.2.2 with ⟨_, z⟩ | ⟨_, e9, z0, z1, _⟩
    · rw [z] at h9
      obtain rfl := Option.some.inj h9
      omega
    · rw [z1] at h9
      obtain rfl := Option.some.inj h9
      omega
  · have := F1.1
    have := F2.1
    have := F3.1
    have := F4.1
    omega
  · have n1 := F1.1
    have n2 := F2.1
    exact (((F1.2.1 x a b9 c9).trans (F2.2.1 x (by omega) b9 c9)).trans (F3.2.1 x (by omega))).trans (F4.2.1 x (by omega) b9 c9)
end
