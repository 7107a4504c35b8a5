/-! more rows: bytes made, shifts by nothing, states by their first place -/
section
variable {sc : Nat × (Nat → Int32)} {cd : mw_CD} {D pc : Nat} {ls : List (Option nw_V)} {st : List nw_V} {M : nw_Mem} {c sl : Nat} {Qr : nw_QR} {Qx : nw_QX}
def nw_zd (J : Nat → Int → UInt64) (a : Nat) : Nat → Int → UInt64 := fun x k => if x = a then 0 else J x k
/-- a new place of bytes -/
def nw_mW (W : nw_W) (m : Nat) : nw_W := (nw_zd W.1 W.2.2.2.2, (nw_nW W m).2)
theorem nw_newBi {len a' b d : Nat} {ps : List Nat} {y : MethodName} {k : Int32} {x : Int} (hl : mw_lk cd pc = some (.newarray .byte, len, (a', b, d), ps, y, k)) (p' : Nat) (hp : pc + 2 = p') (hn : 303 ≤ M.2.2.2.2.2.2) (hm : 0 ≤ x ∧ x < 60000000) (hc : 1 ≤ c) (hs : x.toNat ≤ sl)
    (h : NW sc cd D (p', ls, .inr (.inl (some M.2.2.2.2.2.2)) :: st, (nw_z M.1 M.2.2.2.2.2.2, nw_z M.2.1 M.2.2.2.2.2.2, nw_mW M.2.2 x.toNat), c - 1, sl - x.toNat) Qr Qx) : NW sc cd D (pc, ls, .inl x :: st, M, c, sl) Qr Qx := by
  subst hp
  refine nw_gen hl fun ok => ?_
  obtain ⟨okM, okL, okS⟩ := ok
  have hr : nw_in x := okS _ List.mem_cons_self
  show mw_app (if 1 ≤ c then _ else _) _ _
  rw [if_pos hc]
  have em : (Int32.ofInt x).toNatClampNeg = x.toNat := nw_cl hr
  refine ⟨?_, (_, ls, .inr (.inl (some M.2.2.2.2.2.2)) :: st, (nw_z M.1 M.2.2.2.2.2.2, nw_z M.2.1 M.2.2.2.2.2.2, nw_mW M.2.2 x.toNat), c - 1, sl - x.toNat), ?_, ⟨⟨fun x k => ?_, fun x k => ?_⟩, okL, nw_okc True.intro fun v hv => okS v (List.mem_cons_of_mem _ hv)⟩, h⟩
  · rw [em]
    refine ⟨?_, by omega, hs⟩
    rw [show (0 : Int32) = Int32.ofInt 0 from rfl, nw_lt hr ⟨by decide, by decide⟩]
    omega
  · rw [em]
    refine congrArg (fun z => (pc + 2, nw_ls ls, Value.ref M.2.2.2.2.2.2 :: st.map nw_v, z, c - 1, sl - x.toNat)) ?_
    unfold mw_ncell nw_m mw_W
    refine Prod.ext ?_ (Prod.ext ?_ (Prod.ext ?_ (Prod.ext ?_ (Prod.ext ?_ rfl))))
    · funext x k
      show (if x = M.2.2.2.2.2.2 then (0 : Int32) else Int32.ofInt (M.1 x k)) = Int32.ofInt (nw_z M.1 M.2.2.2.2.2.2 x k)
      unfold nw_z
      split <;> rfl
    · funext x k
      show (if x = M.2.2.2.2.2.2 then (0 : Int64) else Int64.ofInt (M.2.1 x k)) = Int64.ofInt (nw_z M.2.1 M.2.2.2.2.2.2 x k)
      unfold nw_z
      split <;> rfl
    · funext x k
      rfl
    · funext x k
      show (if x = M.2.2.2.2.2.2 then none else mw_rm0 M.2.2.2.1 M.2.2.2.2.1 x k) = mw_rm0 M.2.2.2.1 M.2.2.2.2.1 x k
      split
      · rename_i e
        unfold mw_rm0
        rw [e, if_neg (by omega), if_neg (by omega), nw_rt_none hn]
      · rfl
    · funext z
      show (if z = M.2.2.2.2.2.2 then some (24, x.toNat) else mw_kdx M.2.2.2.2.2.1 z) = mw_kdx (fun z => if z = M.2.2.2.2.2.2 then some (24, x.toNat) else M.2.2.2.2.2.1 z) z
      unfold mw_kdx
      by_cases e : z < 303
      · rw [if_pos e, if_pos e, if_neg (by omega)]
      · rw [if_neg e, if_neg e]
  · show nw_in (nw_z M.1 _ x k)
    unfold nw_z
    split
    · exact ⟨by decide, by decide⟩
    · exact okM.1 _ _
  · show nw_il (nw_z M.2.1 _ x k)
    unfold nw_z
    split
    · exact ⟨by decide, by decide⟩
    · exact okM.2 _ _
theorem nw_xishl0 {x : Int} (h : nw_in x) : nw_xishl x 0 = x := by
  unfold nw_xishl
  rw [show Int32.ofInt x <<< (Int32.ofInt 0 &&& 31) = Int32.ofInt x from by rw [show (Int32.ofInt 0 &&& 31 : Int32) = 0 from by decide]; exact Int32.shiftLeft_zero, nw_ti h]
theorem nw_xishr0 {x : Int} (h : nw_in x) : nw_xishr x 0 = x := by
  unfold nw_xishr
  rw [show Int32.ofInt x >>> (Int32.ofInt 0 &&& 31) = Int32.ofInt x from by rw [show (Int32.ofInt 0 &&& 31 : Int32) = 0 from by decide]; exact Int32.shiftRight_zero, nw_ti h]
theorem nw_ishl0 {len a b d : Nat} {ps : List Nat} {y' : MethodName} {k : Int32} {x : Int} (hl : mw_lk cd pc = some (.ishl, len, (a, b, d), ps, y', k)) (p' : Nat) (hp : pc + 1 = p') (h : NW sc cd D (p', ls, .inl x :: st, M, c, sl) Qr Qx) : NW sc cd D (pc, ls, .inl 0 :: .inl x :: st, M, c, sl) Qr Qx := nw_rng fun ok => by
  have hx : nw_in x := ok.2.2 (.inl x) (List.mem_cons_of_mem _ List.mem_cons_self)
  refine nw_ishl hl p' hp ?_
  rw [nw_xishl0 hx]
  exact h
theorem nw_ishr0 {len a b d : Nat} {ps : List Nat} {y' : MethodName} {k : Int32} {x : Int} (hl : mw_lk cd pc = some (.ishr, len, (a, b, d), ps, y', k)) (p' : Nat) (hp : pc + 1 = p') (h : NW sc cd D (p', ls, .inl x :: st, M, c, sl) Qr Qx) : NW sc cd D (pc, ls, .inl 0 :: .inl x :: st, M, c, sl) Qr Qx := nw_rng fun ok => by
  have hx : nw_in x := ok.2.2 (.inl x) (List.mem_cons_of_mem _ List.mem_cons_self)
  refine nw_ishr hl p' hp ?_
  rw [nw_xishr0 hx]
  exact h
theorem nw_and255 {x : Int} (hx : 0 ≤ x ∧ x < 256) : nw_xiand x 255 = x := by
  rw [nw_and ⟨hx.1, by omega⟩ ⟨by decide, by decide⟩, show ((255 : Int).toNat) = 2 ^ 8 - 1 from rfl, Nat.and_two_pow_sub_one_eq_mod]
  omega
theorem nw_mW_K {J L J' L' : Nat → Int → Int} {W : nw_W} {a m : Nat} {q : Nat × Nat} (h : nw_K (J, L, W) a q) (ha : a < W.2.2.2.2 ∨ a < 303) (hn : 303 ≤ W.2.2.2.2) : nw_K (J', L', nw_mW W m) a q := by
  refine ⟨h.1, ?_⟩
  have h2 := h.2
  by_cases e : a < 303
  · rw [if_pos e] at h2 ⊢
    exact h2
  · rw [if_neg e] at h2 ⊢
    show (if a = W.2.2.2.2 then some (24, m) else W.2.2.2.1 a) = some q
    rw [if_neg (by omega)]
    exact h2
theorem nw_mW_Kn {J' L' : Nat → Int → Int} {W : nw_W} {m : Nat} (hn : 303 ≤ W.2.2.2.2 ∧ W.2.2.2.2 < 1000000) : nw_K (J', L', nw_mW W m) W.2.2.2.2 (24, m) := by
  refine ⟨hn.2, ?_⟩
  rw [if_neg (by omega)]
  exact if_pos rfl
end
section
variable {sc : Nat × (Nat → Int32)} {cd : mw_CD} {D pc : Nat} {ls : List (Option nw_V)} {st : List nw_V} {M : nw_Mem} {c sl : Nat} {Qr : nw_QR} {Qx : nw_QX}
theorem nw_oaq {q : Nat} (h : 1000001 ≤ q ∧ q < 1000031) : mw_oa (q + 100) = true := by
  unfold mw_oa
  simp only [Bool.or_eq_true, Bool.and_eq_true, decide_eq_true_eq]
  omega
theorem nw_olB (a : Nat) : mw_ol a < 2000 := by
  unfold mw_ol
  split
  · rw [List.getD_eq_getElem?_getD]
    have : ∀ k : Nat, (mw_oL[k]?).getD 0 < 2000 := fun k => by
      cases h : mw_oL[k]? with
      | none => decide
      | some x =>
        have h2 : x ∈ mw_oL := List.mem_of_getElem? h
        have : ∀ y ∈ mw_oL, y < 2000 := by decide
        exact this x h2
    exact this _
  · decide
theorem nw_idivN {len a b d : Nat} {ps : List Nat} {y' : MethodName} {k : Int32} {x y : Int} (hl : mw_lk cd pc = some (.idiv, len, (a, b, d), ps, y', k)) (p' : Nat) (hp : pc + 1 = p') (hr : x ≤ 0 ∧ 0 < y) (h : NW sc cd D (p', ls, .inl (-(-x / y)) :: st, M, c, sl) Qr Qx) : NW sc cd D (pc, ls, .inl y :: .inl x :: st, M, c, sl) Qr Qx := by
  subst hp
  refine nw_gen hl fun ok => ?_
  obtain ⟨okM, okL, okS⟩ := ok
  have hy : nw_in y := okS _ List.mem_cons_self
  have hx : nw_in x := okS _ (List.mem_cons_of_mem _ List.mem_cons_self)
  have e1 : Int.tdiv x y = -(-x / y) := by
    have h1 := Int.neg_tdiv (-x) y
    rw [Int.neg_neg] at h1
    rw [h1, Int.tdiv_eq_ediv_of_nonneg (by omega)]
  have q1 : 0 ≤ -x / y := Int.ediv_nonneg (by omega) (by omega)
  have q2 : -x / y ≤ -x := Int.ediv_le_self y (by omega)
  have hi : nw_in (-(-x / y)) := ⟨by omega, by omega⟩
  refine ⟨nw_nz hy hr.2, (_, ls, .inl (-(-x / y)) :: st, M, c, sl), ?_, ⟨okM, okL, nw_okc hi fun v hv => okS v (List.mem_cons_of_mem _ (List.mem_cons_of_mem _ hv))⟩, h⟩
  refine congrArg (fun z => (pc + 1, nw_ls ls, Value.int z :: st.map nw_v, nw_m M, c, sl)) ?_
  rw [← e1]
  refine (Int32.ofInt_tdiv ?_ ?_ ?_ ?_).symm
  · show (-2147483648 : Int) ≤ x
    omega
  · show x ≤ (2147483647 : Int)
    omega
  · show (-2147483648 : Int) ≤ y
    omega
  · show y ≤ (2147483647 : Int)
    omega
end

