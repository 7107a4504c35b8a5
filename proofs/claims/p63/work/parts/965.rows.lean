/-! the law's methods: a row an instruction, over the machine itself -/
section
variable {sc : Nat × (Nat → Int32)} {cd : mw_CD} {d pc c sl : Nat} {ls : List (Option Value)} {st : List Value} {M : mw_Mem} {Qr : Option Value → mw_Mem → Prop} {Qx : Nat → mw_Mem → Prop}
theorem mw_stp_of {q : mw_I} (hl : mw_lk cd pc = some q) : mw_stp sc cd (pc, ls, st, M, c, sl) = mw_ins sc cd.2.2.2.1 q pc ls st M c sl := by
  unfold mw_stp
  rw [show (pc, ls, st, M, c, sl).1 = pc from rfl, hl]
theorem lr (q : mw_I) (f' : mw_Fr) (hl : mw_lk cd pc = some q) (hs : mw_ins sc cd.2.2.2.1 q pc ls st M c sl = some (.inl f')) (h : mw_Wp sc mw_Good cd d f' Qr Qx) : mw_Wp sc mw_Good cd d (pc, ls, st, M, c, sl) Qr Qx := mw_Wp.in (Or.inl (by
  rw [mw_stp_of hl, hs]
  exact h))
theorem lb (q : mw_I) (P : Prop) (f1 f2 : mw_Fr) (hl : mw_lk cd pc = some q) (hs : mw_ins sc cd.2.2.2.1 q pc ls st M c sl = some (.inr (.inl (P, f1, f2)))) (h1 : P → mw_Wp sc mw_Good cd d f1 Qr Qx) (h2 : ¬ P → mw_Wp sc mw_Good cd d f2 Qr Qx) : mw_Wp sc mw_Good cd d (pc, ls, st, M, c, sl) Qr Qx := mw_Wp.in (Or.inl (by
  rw [mw_stp_of hl, hs]
  exact ⟨h1, h2⟩))
theorem lbT (q : mw_I) (P : Prop) (f1 f2 : mw_Fr) (hl : mw_lk cd pc = some q) (hs : mw_ins sc cd.2.2.2.1 q pc ls st M c sl = some (.inr (.inl (P, f1, f2)))) (hP : P) (h1 : mw_Wp sc mw_Good cd d f1 Qr Qx) : mw_Wp sc mw_Good cd d (pc, ls, st, M, c, sl) Qr Qx := lb q P f1 f2 hl hs (fun _ => h1) (fun k => absurd hP k)
theorem lbF (q : mw_I) (P : Prop) (f1 f2 : mw_Fr) (hl : mw_lk cd pc = some q) (hs : mw_ins sc cd.2.2.2.1 q pc ls st M c sl = some (.inr (.inl (P, f1, f2)))) (hP : ¬ P) (h2 : mw_Wp sc mw_Good cd d f2 Qr Qx) : mw_Wp sc mw_Good cd d (pc, ls, st, M, c, sl) Qr Qx := lb q P f1 f2 hl hs (fun k => absurd k hP) (fun _ => h2)
theorem ld (q : mw_I) (P : Prop) (f' : mw_Fr) (hl : mw_lk cd pc = some q) (hs : mw_ins sc cd.2.2.2.1 q pc ls st M c sl = some (.inr (.inr (.inl (P, f'))))) (hP : P) (h : mw_Wp sc mw_Good cd d f' Qr Qx) : mw_Wp sc mw_Good cd d (pc, ls, st, M, c, sl) Qr Qx := mw_Wp.in (Or.inl (by
  rw [mw_stp_of hl, hs]
  exact ⟨hP, h⟩))
theorem lt_ret (q : mw_I) (v : Option Value) (hl : mw_lk cd pc = some q) (hs : mw_ins sc cd.2.2.2.1 q pc ls st M c sl = some (.inr (.inr (.inr (.inl (v, M)))))) (h : Qr v M) : mw_Wp sc mw_Good cd d (pc, ls, st, M, c, sl) Qr Qx := mw_Wp.in (Or.inl (by
  rw [mw_stp_of hl, hs]
  exact h))
theorem lt_retP (q : mw_I) (P : Prop) (v : Option Value) (hl : mw_lk cd pc = some q) (hs : mw_ins sc cd.2.2.2.1 q pc ls st M c sl = some (.inr (.inr (.inr (.inr (P, v, M)))))) (hP : P) (h : Qr v M) : mw_Wp sc mw_Good cd d (pc, ls, st, M, c, sl) Qr Qx := mw_Wp.in (Or.inl (by
  rw [mw_stp_of hl, hs]
  exact ⟨hP, h⟩))
end
/-- a helper of the law works on one office -/
def la (sc : Nat × (Nat → Int32)) (cd : mw_CD) (as : List Int32) (w : of_S) (v : Int32) (w' : of_S) (δ : Int) (D c s : Nat) : Prop := ∀ (b sb : Nat) (M : mw_Mem) (B : Int) (Qr : Option Value → mw_Mem → Prop) (Qx : Nat → mw_Mem → Prop), Off b sb M w B → B + δ ≤ 4000000 → (∀ M', Off b sb M' w' (B + δ) → Fr b sb M M' → Qr (some (.int v)) M') → mw_Wp sc mw_Good cd D (0, mw_entry cd.2.2.1 (.ref b :: as.map Value.int), [], M, c, s) Qr Qx
theorem lc_own {sc : Nat × (Nat → Int32)} {cd cd' : mw_CD} {d pc c sl b sb D0 c0 s0 : Nat} {ls : List (Option Value)} {st st' : List Value} {M : mw_Mem} {Qr : Option Value → mw_Mem → Prop} {Qx : Nat → mw_Mem → Prop} {w w' : of_S} {B δ : Int} {v : Int32} (as : List Int32) (q : mw_I) (hc : la sc cd' as w v w' δ D0 c0 s0) (hO : Off b sb M w B) (hB : B + δ ≤ 4000000) (h1 : mw_lk cd pc = some q) (hb : mw_ck q cd' st = true) (h4 : q.2.2.2.2.1 = cd'.1) (h5 : mw_Good cd') (hd : D0 < d) (h7 : c0 ≤ c) (h8 : s0 ≤ sl) (hr : mw_recv q st M) (hA : (st.take q.2.2.1.1).reverse = .ref b :: as.map Value.int) (hst : st.drop q.2.2.1.1 = st')
    (K : ∀ M', Off b sb M' w' (B + δ) → Fr b sb M M' → mw_Wp sc mw_Good cd d (pc + 3, ls, .int v :: st', M', c - c0, sl - s0) Qr Qx) : mw_Wp sc mw_Good cd d (pc, ls, st, M, c, sl) Qr Qx := by
  subst hst
  refine mw_Wp.cal q cd' D0 c0 s0 h1 hb h4 h5 hd h7 h8 hr ?_
  rw [hA]
  exact hc b sb M B _ _ hO hB (fun M' O F => K M' O F)
/-- an answer: an exception's number, or an int -/
def of_v (r : Nat ⊕ Int) : Nat ⊕ Option nw_V := match r with
  | .inl e => .inl e
  | .inr v => .inr (some (.inl v))
def of_a (r : Nat ⊕ Int) : Int32 := match r with
  | .inl e => Int32.ofNat (4294967295 - e)
  | .inr v => Int32.ofInt v
def of_e (r : Nat ⊕ Int) (k : Nat) : Prop := ∀ e, r = .inl e → e < k
theorem of_v_nr (r : Nat ⊕ Int) : of_nrO (of_v r) := by
  cases r <;> exact True.intro
/-- one answer for each -/
theorem of_ex2 {s : Int → Int → Prop} (n : Int) (hk : ∀ k v, s k v → 0 ≤ k ∧ k ≤ n) (hu : ∀ k v k' v', s k v → s k' v' → k = k' ∧ (k = 0 → v = v')) : ∃ r : Nat ⊕ Int, of_e r n.toNat ∧ ∀ k v, s k v → of_v r = of_o k v := by
  by_cases h : ∃ k v, s k v
  · obtain ⟨k, v, h⟩ := h
    by_cases z : k = 0
    · refine ⟨.inr v, (fun e he => by cases he), fun k' v' h' => ?_⟩
      obtain ⟨e1, e2⟩ := hu k v k' v' h h'
      rw [of_o, if_pos (by omega), ← e2 z]
      rfl
    · have hk' := hk k v h
      refine ⟨.inl (k - 1).toNat, fun e he => ?_, fun k' v' h' => ?_⟩
      · cases he
        omega
      · obtain ⟨e1, e2⟩ := hu k v k' v' h h'
        rw [of_o, if_neg (by omega), ← e1]
        rfl
  · exact ⟨.inr 0, (fun e he => by cases he), fun k v h' => (h ⟨k, v, h'⟩).elim⟩
