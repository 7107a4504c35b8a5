/-! constants as strings -/
def ts_ok (a : Nat) (l : List Int) : Bool := decide (l.length ≤ 60 ∧ 1000001 ≤ a ∧ a < 1000031 ∧ mw_ol (a + 100) = l.length) && (List.range l.length).all (fun k => decide (32 ≤ l.getD k 0 ∧ l.getD k 0 ≤ 126 ∧ mw_ob (a + 100) k = Int32.ofInt (l.getD k 0)))
theorem ts_Str {a : Nat} {l : List Int} {M : mw_Mem} (h : ts_ok a l = true) : Str M a l.length (fun k => l.getD k 0) ∧ l.length ≤ 60 ∧ ∀ k, k < l.length → 32 ≤ l.getD k 0 ∧ l.getD k 0 ≤ 126 := by
  have h1 := (Bool.and_eq_true _ _).mp h
  have a1 : l.length ≤ 60 ∧ 1000001 ≤ a ∧ a < 1000031 ∧ mw_ol (a + 100) = l.length := of_decide_eq_true h1.1
  have a2 : ∀ k, k < l.length → 32 ≤ l.getD k 0 ∧ l.getD k 0 ≤ 126 ∧ mw_ob (a + 100) k = Int32.ofInt (l.getD k 0) := fun k hk => of_decide_eq_true (List.all_eq_true.mp h1.2 k (List.mem_range.mpr hk))
  refine ⟨⟨by omega, fun k hk => ?_, Or.inl ⟨a1.2.1, a1.2.2.1, a1.2.2.2, fun k hk => (a2 k hk).2.2⟩⟩, a1.1, fun k hk => ⟨(a2 k hk).1, (a2 k hk).2.1⟩⟩
  have := a2 k hk
  show 0 ≤ l.getD k 0 ∧ l.getD k 0 < 128
  omega
theorem ok_10 : ts_ok 1000011 ts_10 = true := by decide +kernel
theorem ok_11 : ts_ok 1000012 ts_11 = true := by decide +kernel
theorem ok_12 : ts_ok 1000013 ts_12 = true := by decide +kernel
theorem ok_13 : ts_ok 1000014 ts_13 = true := by decide +kernel
theorem ok_14 : ts_ok 1000015 ts_14 = true := by decide +kernel
theorem ok_15 : ts_ok 1000016 ts_15 = true := by decide +kernel
theorem ok_16 : ts_ok 1000017 ts_16 = true := by decide +kernel
theorem ok_17 : ts_ok 1000018 ts_17 = true := by decide +kernel
theorem ok_18 : ts_ok 1000019 ts_18 = true := by decide +kernel
theorem ok_19 : ts_ok 1000020 ts_19 = true := by decide +kernel
theorem ok_20 : ts_ok 1000021 ts_20 = true := by decide +kernel
theorem ok_21 : ts_ok 1000022 ts_21 = true := by decide +kernel
theorem ok_22 : ts_ok 1000023 ts_22 = true := by decide +kernel
/-! the law walked: the first two offices -/
section
variable {sc : Nat × (Nat → Int32)} {M : mw_Mem} {Qr : Option Value → mw_Mem → Prop} {Qx : Nat → mw_Mem → Prop}
theorem w_1 {w : of_S} (hkn : ∀ x, 1000000 ≤ x → M.2.2.2.2.1 x = none) (hb : ∀ (M : mw_Mem) (Qr : Option Value → mw_Mem → Prop) (Qx : Nat → mw_Mem → Prop), (∀ M', Off M.2.2.2.2.2 302 M' w 40000 → M.2.2.2.2.2 ≤ M'.2.2.2.2.2 → (∀ x, x < M.2.2.2.2.2 → hq M M' x) → KN M M' → Qr (some (.ref M.2.2.2.2.2)) M') → mw_Wp sc mw_Good d_L_build 300 (0, [some (.ref 1000000), none, none, none, none, none, none, none], [], M, 5000, 30000) Qr Qx)
    (K : ∀ (b1 b2 : Nat) (M' : mw_Mem), Off b1 302 M' w 40000 → Off b2 302 M' w 40000 → b1 + 303 ≤ b2 → (∀ x, 1000000 ≤ x → M'.2.2.2.2.1 x = none) → mw_Wp sc mw_Good d_L_law 400 (10, [some (.ref 1000000), some (.ref b1), some (.ref b2), none, none, none, none, none, none], [], M', 30000, 190000) Qr Qx) : mw_Wp sc mw_Good d_L_law 400 (0, [some (.ref 1000000), none, none, none, none, none, none, none, none], [], M, 40000, 250000) Qr Qx := by
  refine lr _ (1, [some (.ref 1000000), none, none, none, none, none, none, none, none], [.ref 1000000], M, 40000, 250000) l_L_law_0 rfl ?_
  refine mw_Wp.cal _ d_L_build 300 5000 30000 l_L_law_1 rfl rfl g_L_build (by decide) (by decide) (by decide) True.intro ?_
  refine hb M _ _ (fun M1 O1 n1 q1 k1 => ?_)
  show mw_Wp sc mw_Good d_L_law 400 (4, [some (.ref 1000000), none, none, none, none, none, none, none, none], [.ref M.2.2.2.2.2], M1, 35000, 220000) Qr Qx
  refine lr _ (5, [some (.ref 1000000), some (.ref M.2.2.2.2.2), none, none, none, none, none, none, none], [], M1, 35000, 220000) l_L_law_4 rfl ?_
  refine lr _ (6, [some (.ref 1000000), some (.ref M.2.2.2.2.2), none, none, none, none, none, none, none], [.ref 1000000], M1, 35000, 220000) l_L_law_5 rfl ?_
  refine mw_Wp.cal _ d_L_build 300 5000 30000 l_L_law_6 rfl rfl g_L_build (by decide) (by decide) (by decide) True.intro ?_
  refine hb M1 _ _ (fun M2 O2 n2 q2 k2 => ?_)
  show mw_Wp sc mw_Good d_L_law 400 (9, [some (.ref 1000000), some (.ref M.2.2.2.2.2), none, none, none, none, none, none, none], [.ref M1.2.2.2.2.2], M2, 30000, 190000) Qr Qx
  refine lr _ (10, [some (.ref 1000000), some (.ref M.2.2.2.2.2), some (.ref M1.2.2.2.2.2), none, none, none, none, none, none], [], M2, 30000, 190000) l_L_law_9 rfl ?_
  exact K _ _ M2 (O1.fr n2 (fun x hx => q2 x (by have := O1.kd; omega))) O2 (by have := O1.kd; omega) (fun x a => k2 x a (k1 x a (hkn x a)))
end
