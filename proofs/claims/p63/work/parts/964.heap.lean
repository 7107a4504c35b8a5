/-! offices side by side: a call on one of them -/
def mw_ckX (q : mw_I) (cd' : mw_CD) (st : List Value) : Bool := mw_isinvX q.1 && decide (q.2.2.1.2.1 < 8) && decide (q.2.2.1.1 ≤ st.length) && decide (mw_cats (st.drop q.2.2.1.1) ≤ 8) && (st.take q.2.2.1.1).all (fun v => decide (v.category = 1)) && decide (q.2.2.1.1 ≤ cd'.2.2.1) && (if q.2.2.1.2.1 = 5 then !cd'.2.2.2.2.2.isEmpty else cd'.2.2.2.2.2.isEmpty)
theorem mw_Wp.calX {sc : Nat × (Nat → Int32)} {Good : mw_CD → Prop} {cd : mw_CD} {D : Nat} {Qr : Option Value → mw_Mem → Prop} {Qx : Nat → mw_Mem → Prop} {pc : Nat} {ls : List (Option Value)} {st : List Value} {M : mw_Mem} {c sl : Nat} (q : mw_I) (cd' : mw_CD) (D' mc ms off : Nat) (N : mw_Mem) (As : List Value) (h1 : mw_lk cd pc = some q) (hb : mw_ckX q cd' st = true) (h4 : q.2.2.2.2.1 = cd'.1) (h5 : Good cd') (h6 : D' < D) (h7 : mc ≤ c) (h8 : ms ≤ sl) (h10 : mw_recv q st M) (hA : (st.take q.2.2.1.1).reverse = As.map (mw_upV off)) (hN : mw_sub off N M)
    (a : mw_Wp sc Good cd' D' (0, mw_entry cd'.2.2.1 As, [], N, mc, ms) (fun v N9 => mw_Wp sc Good cd D (pc + q.2.1, ls, (v.map (mw_upV off)).toList ++ st.drop q.2.2.1.1, mw_join off M N N9, c - mc, sl - ms) Qr Qx) (fun e9 N9 => mw_hx cd pc e9 Qr Qx (mw_join off M N N9))) : mw_Wp sc Good cd D (pc, ls, st, M, c, sl) Qr Qx := by
  obtain ⟨D1, rfl⟩ : ∃ k, D = k + 1 := ⟨D - 1, by omega⟩
  unfold mw_ckX at hb
  simp only [Bool.and_eq_true, decide_eq_true_eq] at hb
  obtain ⟨⟨⟨⟨⟨⟨k1, k2⟩, k3⟩, k4⟩, k5⟩, k6⟩, k7⟩ := hb
  refine mw_Wp.callX q cd' D1 mc ms _ _ off N As h1 k1 k2 h4 h5 rfl h7 h8 k3 h10 ⟨k4, k5, k6, ?_⟩ hA hN (mw_Wp.less (by omega) (Nat.le_refl _) (Nat.le_refl _) a) (fun v M' k => k) (fun e M' k => k)
  by_cases e : q.2.2.1.2.1 = 5
  · rw [if_pos e] at k7
    exact Or.inl ⟨e, by simpa using k7⟩
  · rw [if_neg e] at k7
    exact Or.inr ⟨e, k7⟩
/-- nothing at x has changed -/
def hq (M M' : mw_Mem) (x : Nat) : Prop := M'.1 x = M.1 x ∧ M'.2.1 x = M.2.1 x ∧ M'.2.2.1 x = M.2.2.1 x ∧ M'.2.2.2.1 x = M.2.2.2.1 x ∧ M'.2.2.2.2.1 x = M.2.2.2.2.1 x
theorem hq.refl {M : mw_Mem} {x : Nat} : hq M M x := ⟨rfl, rfl, rfl, rfl, rfl⟩
theorem hq.trans {M M' M'' : mw_Mem} {x : Nat} (h : hq M M' x) (k : hq M' M'' x) : hq M M'' x := ⟨k.1.trans h.1, k.2.1.trans h.2.1, k.2.2.1.trans h.2.2.1, k.2.2.2.1.trans h.2.2.2.1, k.2.2.2.2.trans h.2.2.2.2⟩
/-- there is nothing at the old places -/
def KN (M M' : mw_Mem) : Prop := ∀ x, 1000000 ≤ x → M.2.2.2.2.1 x = none → M'.2.2.2.2.1 x = none
/-- nothing but the office at b has changed -/
def Fr (b sb : Nat) (M M' : mw_Mem) : Prop := M.2.2.2.2.2 ≤ M'.2.2.2.2.2 ∧ (∀ x, x < M.2.2.2.2.2 → ¬ (b ≤ x ∧ x < b + 303) → ¬ x = b + sb → hq M M' x) ∧ KN M M'
theorem Fr.refl {b sb : Nat} {M : mw_Mem} : Fr b sb M M := ⟨Nat.le_refl _, fun _ _ _ _ => hq.refl, fun _ _ h => h⟩
theorem Fr.trans {b sb : Nat} {M M' M'' : mw_Mem} (h : Fr b sb M M') (k : Fr b sb M' M'') : Fr b sb M M'' := ⟨Nat.le_trans h.1 k.1, fun x a b c => (h.2.1 x a b c).trans (k.2.1 x (Nat.lt_of_lt_of_le a h.1) b c), fun x a e => k.2.2 x a (h.2.2 x a e)⟩
/-- the office w stands at b, the cells of its line at b + sb -/
def Off (b sb : Nat) (M : mw_Mem) (w : of_S) (B : Int) : Prop := ∃ (J L : Nat → Int → Int) (W : nw_W), of_P J L W w B ∧ nw_okM (J, L, W) ∧ mw_sub b (nw_m (J, L, W)) M ∧ W.2.2.1 = sb ∧ ∀ a q, 303 ≤ a → W.2.2.2.1 a = some q → a = sb
theorem nw_m_kd {J L : Nat → Int → Int} {W : nw_W} {a : Nat} : (nw_m (J, L, W)).2.2.2.2.1 a = (if a < 303 then mw_kd0 a else W.2.2.2.1 a) := rfl
theorem of_P.sb {J L : Nat → Int → Int} {W : nw_W} {w : of_S} {B : Int} (h : of_P J L W w B) : (∃ m, nw_K (J, J, W) W.2.2.1 (24, m)) ∧ (W.2.2.1 = 302 ∨ 303 ≤ W.2.2.1) ∧ W.2.2.1 < W.2.2.2.2 ∧ 303 ≤ W.2.2.2.2 := by
  obtain ⟨⟨m, _, _, av, an, ak, _, _⟩, _⟩ := h.2.2.2
  exact ⟨⟨m, ak⟩, av.1, av.2, an⟩
/-- the kinds of later places, but for the line's cells, may be forgotten -/
def nw_rs (W : nw_W) : nw_W := (W.1, W.2.1, W.2.2.1, (fun a => if a = W.2.2.1 then W.2.2.2.1 a else none), W.2.2.2.2)
theorem of_P.rs {J L : Nat → Int → Int} {W : nw_W} {w : of_S} {B : Int} (h : of_P J L W w B) : of_P J L (nw_rs W) w B := by
  refine ⟨h.1.w rfl, h.2.1, h.2.2.1, ?_⟩
  obtain ⟨⟨m, a1, a2, a3, a4, ⟨k1, k2⟩, a6, a7⟩, hl⟩ := h.2.2.2
  refine ⟨⟨m, a1, a2, a3, a4, ⟨k1, ?_⟩, a6, a7⟩, hl⟩
  show (if W.2.2.1 < 303 then mw_kd0 W.2.2.1 else (if W.2.2.1 = W.2.2.1 then W.2.2.2.1 W.2.2.1 else none)) = _
  rw [if_pos (rfl : W.2.2.1 = W.2.2.1)]
  exact k2
theorem kd0_some : ∀ a : Nat, a < 303 → (mw_kd0 a).isSome = true := by
  have h : ((List.range 303).all fun a => (mw_kd0 a).isSome) = true := by decide +kernel
  exact fun a ha => List.all_eq_true.mp h a (List.mem_range.mpr ha)
/-- what a call on the office at b makes of the memory -/
theorem Off.join {b sb : Nat} {M : mw_Mem} {J L J' L' : Nat → Int → Int} {W W' : nw_W} {w w' : of_S} {B B' : Int} (h : of_P J L W w B) (hs : mw_sub b (nw_m (J, L, W)) M) (hsb : W.2.2.1 = sb) (hx : ∀ a q, 303 ≤ a → W.2.2.2.1 a = some q → a = sb) (h' : of_P J' L' W' w' B') (ok : nw_okM (J', L', W')) (hn : W.2.2.2.2 ≤ W'.2.2.2.2) (hsb' : W'.2.2.1 = sb ∨ (W.2.2.2.2 ≤ W'.2.2.1 ∧ W'.2.2.1 + b < 1000000)) : Off b W'.2.2.1 (mw_join b M (nw_m (J, L, W)) (nw_m (J', L', W'))) w' B' ∧ Fr b sb M (mw_join b M (nw_m (J, L, W)) (nw_m (J', L', W'))) := by
  obtain ⟨hn0, hk⟩ := hs
  have hn0 : M.2.2.2.2.2 = W.2.2.2.2 + b := hn0
  obtain ⟨⟨m, kb⟩, sb1, sb2, sb3⟩ := h.sb
  refine ⟨⟨J', L', nw_rs W', h'.rs, ok, ⟨rfl, fun a q ha => ?_⟩, rfl, fun a q ha e => ?_⟩, ⟨?_, fun x x1 x2 x3 => ?_, fun x x1 e => ?_⟩⟩
  · have ha : (if a < 303 then mw_kd0 a else (if a = W'.2.2.1 then W'.2.2.2.1 a else none)) = some q := ha
    have key : mw_dom b M (nw_m (J, L, W)) (a + b) = true ∧ a + b < 1000000 ∧ (nw_m (J', L', W')).2.2.2.2.1 a = some q := by
      unfold mw_dom
      rw [Nat.add_sub_cancel, nw_m_kd, nw_m_kd]
      by_cases z : a < 303
      · rw [if_pos z] at ha
        rw [if_pos z, if_pos z, ha]
        have := (hk a q (by rw [nw_m_kd, if_pos z]; exact ha)).2.1
        exact ⟨by simp, this, rfl⟩
      · rw [if_neg z] at ha
        by_cases y : a = W'.2.2.1
        · rw [if_pos y] at ha
          rw [if_neg z, if_neg z]
          rcases hsb' with e | ⟨e1, e2⟩
          · have ea : a = W.2.2.1 := by omega
            have kb2 := kb.2
            rw [← ea, if_neg z] at kb2
            have kb2 : W.2.2.2.1 a = some (24, m) := kb2
            have := (hk a (24, m) (by rw [nw_m_kd, if_neg z]; exact kb2)).2.1
            rw [kb2]
            exact ⟨by simp, this, ha⟩
          · refine ⟨?_, by omega, ha⟩
            have : M.2.2.2.2.2 ≤ a + b := by omega
            simp [this]
        · rw [if_neg y] at ha
          cases ha
    obtain ⟨k1, k2, k3⟩ := key
    refine ⟨?_, k2, ?_, ?_, ?_, fun k => ?_⟩
    · show (if mw_dom b M (nw_m (J, L, W)) (a + b) = true then (if a + b < 1000000 then (nw_m (J', L', W')).2.2.2.2.1 (a + b - b) else none) else _) = _
      rw [if_pos k1, if_pos k2, Nat.add_sub_cancel]
      exact k3
    · show (if mw_dom b M (nw_m (J, L, W)) (a + b) = true then _ else _) = _
      rw [if_pos k1, Nat.add_sub_cancel]
      rfl
    · show (if mw_dom b M (nw_m (J, L, W)) (a + b) = true then _ else _) = _
      rw [if_pos k1, Nat.add_sub_cancel]
      rfl
    · show (if mw_dom b M (nw_m (J, L, W)) (a + b) = true then _ else _) = _
      rw [if_pos k1, Nat.add_sub_cancel]
      rfl
    · show (if mw_dom b M (nw_m (J, L, W)) (a + b) = true then _ else _) = _
      rw [if_pos k1, Nat.add_sub_cancel]
      rfl
  · have e : (if a = W'.2.2.1 then W'.2.2.2.1 a else none) = some q := e
    by_cases y : a = W'.2.2.1
    · exact y
    · rw [if_neg y] at e
      cases e
  · show M.2.2.2.2.2 ≤ W'.2.2.2.2 + b
    omega
  · have nd : ¬ mw_dom b M (nw_m (J, L, W)) x = true := by
      unfold mw_dom
      rw [nw_m_kd]
      intro e
      simp only [Bool.and_eq_true, Bool.or_eq_true, decide_eq_true_eq] at e
      obtain ⟨e1, e2⟩ := e
      rcases e2 with e2 | e2
      · rw [if_neg (by omega)] at e2
        obtain ⟨q, hq⟩ := Option.isSome_iff_exists.mp e2
        have := hx _ q (by omega) hq
        omega
      · omega
    refine ⟨?_, ?_, ?_, ?_, ?_⟩
    · show (if mw_dom b M (nw_m (J, L, W)) x = true then _ else _) = _
      rw [if_neg nd]
    · show (if mw_dom b M (nw_m (J, L, W)) x = true then _ else _) = _
      rw [if_neg nd]
    · show (if mw_dom b M (nw_m (J, L, W)) x = true then _ else _) = _
      rw [if_neg nd]
    · funext k
      show (if mw_dom b M (nw_m (J, L, W)) x = true then _ else _) = _
      rw [if_neg nd]
    · show (if mw_dom b M (nw_m (J, L, W)) x = true then _ else _) = _
      rw [if_neg nd]
  · show (if mw_dom b M (nw_m (J, L, W)) x = true then (if x < 1000000 then _ else none) else M.2.2.2.2.1 x) = none
    split
    · rw [if_neg (by omega)]
    · exact e
/-- another office stays -/
theorem Off.fr {b sb : Nat} {M M' : mw_Mem} {w : of_S} {B : Int} (h : Off b sb M w B) (hn : M.2.2.2.2.2 ≤ M'.2.2.2.2.2) (e : ∀ x, ((b ≤ x ∧ x < b + 303) ∨ x = b + sb) → hq M M' x) : Off b sb M' w B := by
  obtain ⟨J, L, W, hP, ok, ⟨n0, hk⟩, hsb, hx⟩ := h
  have n0 : M.2.2.2.2.2 = W.2.2.2.2 + b := n0
  refine ⟨J, L, nw_top W (M'.2.2.2.2.2 - b), hP.top (by omega), ok, ⟨?_, fun a q ha => ?_⟩, hsb, hx⟩
  · show M'.2.2.2.2.2 = M'.2.2.2.2.2 - b + b
    omega
  · have ha' : (nw_m (J, L, W)).2.2.2.2.1 a = some q := ha
    have k := hk a q ha'
    have ha2 : (if a < 303 then mw_kd0 a else W.2.2.2.1 a) = some q := ha
    have at' : a < 303 ∨ a = sb := by
      by_cases z : a < 303
      · exact Or.inl z
      · rw [if_neg z] at ha2
        exact Or.inr (hx a q (by omega) ha2)
    have x := e (a + b) (by omega)
    exact ⟨x.2.2.2.2.trans k.1, k.2.1, x.1.trans k.2.2.1, x.2.1.trans k.2.2.2.1, x.2.2.1.trans k.2.2.2.2.1, fun k9 => (congrFun x.2.2.2.1 k9).trans (k.2.2.2.2.2 k9)⟩
theorem Off.up {b sb : Nat} {M : mw_Mem} {w : of_S} {B B' : Int} (h : Off b sb M w B) (hB : B ≤ B') (hB' : B' ≤ 4000000) : Off b sb M w B' := by
  obtain ⟨J, L, W, hP, r⟩ := h
  exact ⟨J, L, W, ⟨hP.1.upB hB hB', hP.2⟩, r⟩
theorem Off.kd {b sb : Nat} {M : mw_Mem} {w : of_S} {B : Int} (h : Off b sb M w B) : M.2.2.2.2.1 b = some (15, 13) ∧ b + 303 ≤ M.2.2.2.2.2 ∧ b + sb < M.2.2.2.2.2 ∧ b < 1000000 ∧ (sb = 302 ∨ 303 ≤ sb) := by
  obtain ⟨J, L, W, hP, ok, ⟨n0, hk⟩, hsb, hx⟩ := h
  have n0 : M.2.2.2.2.2 = W.2.2.2.2 + b := n0
  have k := hk 0 (15, 13) (by rw [nw_m_kd, if_pos (by decide)]; decide)
  rw [Nat.zero_add] at k
  have s := hP.sb
  exact ⟨k.1, by omega, by omega, k.2.1, by omega⟩
/-- no more than so many -/
theorem Off.inv {b sb : Nat} {M : mw_Mem} {w : of_S} {B : Int} (h : Off b sb M w B) : Inv w.1.1 B ∧ sp_fut w.1.1 ∧ (0 ≤ w.1.2.1 ∧ w.1.2.1 ≤ 8) := by
  obtain ⟨J, L, W, hP, _⟩ := h
  exact ⟨hP.1.1.2.1, hP.1.1.2.2, hP.1.2.1.2.2⟩
def of_nr (v : Option nw_V) : Prop := match v with
  | some (.inr (.inl _)) => False
  | _ => True
def of_nrO (o : Nat ⊕ Option nw_V) : Prop := match o with
  | .inl _ => True
  | .inr v => of_nr v
def of_K (o : Nat ⊕ Option nw_V) (f : Nat → Prop) (g : Option nw_V → Prop) : Prop := match o with
  | .inl e => f e
  | .inr v => g v
theorem of_nr_up {b : Nat} {v : Option nw_V} (h : of_nr v) : (v.map nw_v).map (mw_upV b) = v.map nw_v := by
  match v, h with
  | none, _ => rfl
  | some (.inl x), _ => rfl
  | some (.inr (.inr (.inl x))), _ => rfl
  | some (.inr (.inr (.inr (.inl x)))), _ => rfl
  | some (.inr (.inr (.inr (.inr x)))), _ => rfl
theorem of_entry {k b : Nat} {as : List Int32} : nw_ls (nw_entry k (.inr (.inl (some 0)) :: as.map (fun v => (.inl v.toInt : nw_V)))) = mw_entry k (.ref 0 :: as.map Value.int) := by
  unfold nw_ls nw_entry mw_entry
  rw [List.map_append, List.map_replicate, List.map_map]
  congr 1
  · simp [nw_v, Function.comp_def, Int32.ofInt_toInt]
  · simp
section
variable {sc : Nat × (Nat → Int32)} {cd cdX : mw_CD} {d pc c sl b sb : Nat} {ls : List (Option Value)} {st st' : List Value} {M : mw_Mem} {Qr : Option Value → mw_Mem → Prop} {Qx : Nat → mw_Mem → Prop} {w w' : of_S} {B δ : Int}
/-- a call on an office -/
theorem lc_call (as : List Int32) {o : Nat ⊕ Option nw_V} {q : mw_I} (hc : of_call cdX (as.map (fun v => (.inl v.toInt : nw_V))) w o w' δ) (hO : Off b sb M w B) (hB : B + δ ≤ 4000000) (h1 : mw_lk cd pc = some q) (hb : mw_ckX q cdX st = true) (h4 : q.2.2.2.2.1 = cdX.1) (h5 : mw_Good cdX) (hd : 21 ≤ d) (h7 : 4 ≤ c) (h8 : 24 ≤ sl) (hA : (st.take q.2.2.1.1).reverse = .ref b :: as.map Value.int) (hst : st.drop q.2.2.1.1 = st') (hr : ∀ (R : mw_Mem), R.2.2.2.2.1 b = some (15, 13) → mw_recv q st R) (hnr : of_nrO o)
    (K : ∀ M', Off b sb M' w' (B + δ) → Fr b sb M M' → of_K o (fun e => mw_hx cd pc e Qr Qx M') (fun v => mw_Wp sc mw_Good cd d (pc + q.2.1, ls, (v.map nw_v).toList ++ st', M', c - 4, sl - 24) Qr Qx)) : mw_Wp sc mw_Good cd d (pc, ls, st, M, c, sl) Qr Qx := by
  subst hst
  have kd := hO.kd
  obtain ⟨J, L, W, hP, ok, hsub, hsb, hx⟩ := hO
  refine mw_Wp.calX q cdX (d - 1) 4 24 b (nw_m (J, L, W)) (.ref 0 :: as.map Value.int) h1 hb h4 h5 (by omega) h7 h8 (hr M kd.1) ?_ hsub ?_
  · rw [hA, List.map_cons, List.map_map]
    have e1 : mw_upV b (.ref 0) = .ref b := by
      show Value.ref (mw_up b 0) = _
      unfold mw_up
      rw [if_pos (by decide), Nat.zero_add, if_pos kd.2.2.2.1]
    rw [e1]
    congr 1
  · refine mw_Wp.less (D' := 20) (by omega) (Nat.le_refl _) (Nat.le_refl _) ?_
    have H := hc sc J L W B (fun v N => nw_okM N → mw_Wp sc mw_Good cd d (pc + q.2.1, ls, ((v.map nw_v).map (mw_upV b)).toList ++ st.drop q.2.2.1.1, mw_join b M (nw_m (J, L, W)) (nw_m N), c - 4, sl - 24) Qr Qx) (fun e N => nw_okM N → mw_hx cd pc e Qr Qx (mw_join b M (nw_m (J, L, W)) (nw_m N))) hP hB (fun J' L' W' hP' es hn => by
      have hK : ∀ okN : nw_okM (J', L', W'), _ := fun okN => by
        have j := Off.join hP hsub hsb hx hP' okN hn (Or.inl (es.trans hsb))
        rw [es.trans hsb] at j
        exact K _ j.1 j.2
      cases o with
      | inl e => exact hK
      | inr v =>
        intro okN
        rw [of_nr_up hnr]
        exact hK okN)
    have h := of_eq_true H ⟨ok, fun v hv => ?_, fun v hv => by cases hv⟩
    · have h : mw_Wp sc mw_Good cdX 20 (0, nw_ls (nw_entry cdX.2.2.1 (.inr (.inl (some 0)) :: as.map (fun v => (.inl v.toInt : nw_V)))), [], nw_m (J, L, W), 4, 24) _ _ := h
      rw [of_entry (b := b)] at h
      refine mw_Wp.mono h (fun v N ⟨x, N', e1, e2, okN, _, hq⟩ => ?_) (fun e N ⟨N', e2, okN, hq⟩ => ?_)
      · subst e1 e2
        exact hq okN
      · subst e2
        exact hq okN
    · have hv : some v ∈ nw_entry cdX.2.2.1 (.inr (.inl (some 0)) :: as.map (fun v => (.inl v.toInt : nw_V))) := hv
      rcases List.mem_append.mp hv with hv | hv
      · obtain ⟨y, hy, e⟩ := List.mem_map.mp hv
        cases e
        rcases List.mem_cons.mp hy with rfl | hy
        · exact True.intro
        · obtain ⟨z, _, rfl⟩ := List.mem_map.mp hy
          exact nw_inT z
      · have := List.eq_of_mem_replicate hv
        cases this
/-- the line of the office's ferry x -/
theorem lc_desc {x : Int32} {q : mw_I} (hf : sp_isF w.1.1 x.toInt) (hO : Off b sb M w B) (h1 : mw_lk cd pc = some q) (hb : mw_ckX q d_X11_describeFerry st = true) (h4 : q.2.2.2.2.1 = d_X11_describeFerry.1) (hd : 21 ≤ d) (h7 : 27 ≤ c) (h8 : 4000 ≤ sl) (hA : (st.take q.2.2.1.1).reverse = [.ref b, .int x]) (hst : st.drop q.2.2.1.1 = st') (hr : ∀ (R : mw_Mem), R.2.2.2.2.1 b = some (15, 13) → mw_recv q st R)
    (K : ∀ sb' M', Off b sb' M' (w.1, w.2.1, w.2.2.1, sp_line w.1.1 x.toInt w.2.2.2.2) B → Fr b sb M M' → mw_Wp sc mw_Good cd d (pc + q.2.1, ls, .int (Int32.ofInt (sp_line w.1.1 x.toInt w.2.2.2.2).1) :: st', M', c - 27, sl - 4000) Qr Qx) : mw_Wp sc mw_Good cd d (pc, ls, st, M, c, sl) Qr Qx := by
  subst hst
  have kd := hO.kd
  obtain ⟨J, L, W, hP, ok, hsub, hsb, hx⟩ := hO
  refine mw_Wp.fact (fun hn9 => ?_)
  have hn9 : M.2.2.2.2.2 ≤ 990000 := hn9
  have hn0 : M.2.2.2.2.2 = W.2.2.2.2 + b := hsub.1
  refine mw_Wp.calX q d_X11_describeFerry (d - 1) 27 4000 b (nw_m (J, L, W)) (.ref 0 :: [x].map Value.int) h1 hb h4 g_X11_describeFerry (by omega) h7 h8 (hr M kd.1) ?_ hsub ?_
  · rw [hA, List.map_cons, List.map_map]
    have e1 : mw_upV b (.ref 0) = .ref b := by
      show Value.ref (mw_up b 0) = _
      unfold mw_up
      rw [if_pos (by decide), Nat.zero_add, if_pos kd.2.2.2.1]
    rw [e1]
    rfl
  · refine mw_Wp.less (D' := 20) (by omega) (Nat.le_refl _) (Nat.le_refl _) ?_
    have H := o_describe (sc := sc) (Qr := fun v N => nw_okM N → mw_Wp sc mw_Good cd d (pc + q.2.1, ls, ((v.map nw_v).map (mw_upV b)).toList ++ st.drop q.2.2.1.1, mw_join b M (nw_m (J, L, W)) (nw_m N), c - 27, sl - 4000) Qr Qx) (Qx := fun e N => nw_okM N → mw_hx cd pc e Qr Qx (mw_join b M (nw_m (J, L, W)) (nw_m N))) hf hP (by omega) (fun J' L' W' hP' es hn => fun okN => by
      refine mw_Wp.fact (fun hn8 => ?_)
      have hn8 : W'.2.2.2.2 + b ≤ 990000 := hn8
      have s := hP'.sb
      have j := Off.join hP hsub hsb hx hP' okN hn (es.elim (fun e => Or.inl (e.trans hsb)) (fun e => Or.inr ⟨e, by omega⟩))
      exact K _ _ j.1 j.2)
    have h := of_eq_true H ⟨ok, fun v hv => ?_, fun v hv => by cases hv⟩
    · have h : mw_Wp sc mw_Good d_X11_describeFerry 20 (0, nw_ls (nw_entry d_X11_describeFerry.2.2.1 (.inr (.inl (some 0)) :: [x].map (fun v => (.inl v.toInt : nw_V)))), [], nw_m (J, L, W), 27, 4000) _ _ := h
      rw [of_entry (b := b)] at h
      refine mw_Wp.mono h (fun v N ⟨x, N', e1, e2, okN, _, hq⟩ => ?_) (fun e N ⟨N', e2, okN, hq⟩ => ?_)
      · subst e1 e2
        exact hq okN
      · subst e2
        exact hq okN
    · rcases List.mem_cons.mp hv with hv | hv
      · cases hv
        exact True.intro
      · rcases List.mem_cons.mp hv with hv | hv
        · cases hv
          exact nw_inT x
        · cases hv
end
