/-! command texts: reading along a form -/
section
variable {sc : Nat × (Nat → Int32)} {D : Nat} {J L : Nat → Int → Int} {W : nw_W} {c sl : Nat} {Qr : nw_QR} {Qx : nw_QX} {g : Int → Int} {B : Int}
abbrev sp_dg (T : Int → Int) (n s : Int) : Prop := s < n ∧ 48 ≤ T s ∧ T s ≤ 57
/-- behind the piece c of a form that is read at s; -1: it is not there -/
def sp_nx (T : Int → Int) (n c s : Int) : Int := if c = 35 then (if sp_dg T n s then s + 1 else -1) else if c = 42 then (if sp_dg T n s then (if sp_dg T n (s + 1) then s + 2 else s + 1) else -1) else (if s < n ∧ T s = c then s + 1 else -1)
def sp_vl (T : Int → Int) (n c s : Int) : Int := if c = 42 ∧ sp_dg T n (s + 1) then (T s - 48) * 10 + T (s + 1) - 48 else T s - 48
abbrev sp_isv (c : Int) : Prop := c = 35 ∨ c = 42
/-- where reading stands, and whether it went wrong -/
def sp_st (T : Int → Int) (n c : Int) (P : Int × Int) : Int × Int := if P.2 = 0 ∧ ¬ sp_nx T n c P.1 = -1 then (sp_nx T n c P.1, 0) else (P.1, 1)
def sp_dV (T : Int → Int) (n c : Int) (P : Int × Int) : Int := if P.2 = 0 ∧ ¬ sp_nx T n c P.1 = -1 then sp_vl T n c P.1 else 0
def sp_fo (T : Int → Int) (n : Int) : List Int → Int × Int → Int × Int
  | [], P => P
  | c :: r, P => sp_fo T n r (sp_st T n c P)
def sp_vs (T : Int → Int) (n : Int) : List Int → Int × Int → List Int
  | [], _ => []
  | c :: r, P => if sp_isv c then sp_dV T n c P :: sp_vs T n r (sp_st T n c P) else sp_vs T n r (sp_st T n c P)
def sp_nd : List Int → Nat
  | [] => 0
  | c :: r => (if sp_isv c then 1 else 0) + sp_nd r
section
variable {T : Int → Int} {n : Int}
theorem sp_st_ok {c s : Int} (h : ¬ sp_nx T n c s = -1) : sp_st T n c (s, 0) = (sp_nx T n c s, 0) := if_pos ⟨rfl, h⟩
theorem sp_st_no {c s : Int} (h : sp_nx T n c s = -1) : sp_st T n c (s, 0) = (s, 1) := if_neg (fun w => w.2 h)
theorem sp_st_bad {c s : Int} : sp_st T n c (s, 1) = (s, 1) := if_neg (fun w => absurd w.1 (show ¬ (1 : Int) = 0 by decide))
theorem sp_fo_bad : ∀ {r : List Int} {s : Int}, sp_fo T n r (s, 1) = (s, 1)
  | [], _ => rfl
  | c :: r, s => by
    rw [sp_fo, sp_st_bad]
    exact sp_fo_bad
theorem sp_fo_no {c s : Int} {r : List Int} (h : sp_nx T n c s = -1) : sp_fo T n (c :: r) (s, 0) = (s, 1) := by
  rw [sp_fo, sp_st_no h]
  exact sp_fo_bad
theorem sp_fo_ok {c s : Int} {r : List Int} (h : ¬ sp_nx T n c s = -1) : sp_fo T n (c :: r) (s, 0) = sp_fo T n r (sp_nx T n c s, 0) := by
  rw [sp_fo, sp_st_ok h]
theorem sp_vs_len : ∀ {r : List Int} {P : Int × Int}, (sp_vs T n r P).length = sp_nd r
  | [], _ => rfl
  | c :: r, P => by
    rw [sp_vs, sp_nd]
    split
    · rw [List.length_cons, sp_vs_len]
      omega
    · rw [sp_vs_len]
      omega
theorem sp_nx_at {c s : Int} (h0 : 0 ≤ s) (h : ¬ sp_nx T n c s = -1) : s < n ∧ s + 1 ≤ sp_nx T n c s ∧ sp_nx T n c s ≤ n ∧ sp_nx T n c s ≤ s + 2 := by
  unfold sp_nx at h ⊢
  unfold sp_dg at h ⊢
  repeat' split at h
  all_goals (first | exact absurd rfl h | skip)
  all_goals (simp_all <;> omega)
theorem sp_fo_le : ∀ {r : List Int} {s : Int}, 0 ≤ s → s ≤ n → s ≤ (sp_fo T n r (s, 0)).1 ∧ (sp_fo T n r (s, 0)).1 ≤ n ∧ ((sp_fo T n r (s, 0)).2 = 0 ∨ (sp_fo T n r (s, 0)).2 = 1) ∧ ((sp_fo T n r (s, 0)).2 = 0 → s + r.length ≤ (sp_fo T n r (s, 0)).1)
  | [], s, h0, h1 => ⟨Int.le_refl _, h1, Or.inl rfl, fun _ => by show s + ((0 : Nat) : Int) ≤ s; omega⟩
  | c :: r, s, h0, h1 => by
    by_cases h : sp_nx T n c s = -1
    · rw [sp_fo_no h]
      exact ⟨Int.le_refl _, h1, Or.inr rfl, fun w => absurd w (show ¬ (1 : Int) = 0 by decide)⟩
    · have a := sp_nx_at h0 h
      have ih := sp_fo_le (r := r) (s := sp_nx T n c s) (by omega) a.2.2.1
      rw [sp_fo_ok h, List.length_cons]
      refine ⟨by omega, ih.2.1, ih.2.2.1, fun w => ?_⟩
      have := ih.2.2.2 w
      omega
end
theorem t_X1_readForm {u : Nat} {F : List Int} {m n x : Int} (hu : 1000001 ≤ u ∧ u < 1000031) (hl : mw_ol (u + 100) = F.length) (h20 : F.length ≤ 20) (hF : ∀ i : Nat, i < F.length → (nw_xiand (nw_ob (u + 100) i) 255) % 65536 = F.getD i 0 ∧ 0 ≤ F.getD i 0 ∧ F.getD i 0 < 65536) (hd : sp_nd F ≤ 4) (hm : J 297 1 = m) (m0 : 0 ≤ m ∧ m < 10) (hn : J 297 0 = n) (n0 : n ≤ 60) (hx : 0 ≤ x ∧ x ≤ 60) (hD : 13 ≤ D)
    (hQ : ∀ J', (∀ y, ¬ y = 300 → J' y = J y) → (∀ j, j < 4 * m → J' 300 j = J 300 j) → ((sp_fo (J 299) n F (x, 0)).2 = 0 → ∀ j : Nat, j < sp_nd F → J' 300 (4 * m + j) = (sp_vs (J 299) n F (x, 0)).getD j 0) → Qr (some (.inl (if (sp_fo (J 299) n F (x, 0)).2 = 0 then (sp_fo (J 299) n F (x, 0)).1 else -1 - (sp_fo (J 299) n F (x, 0)).1))) (J', L, W)) : NW sc d_X1_readForm D (0, [some (.inr (.inl (some 297))), some (.inr (.inl (some (u)))), some (.inl x), none, none, none, none, none, none], [], (J, L, W), c, sl) Qr Qx := by
  obtain ⟨T, hT⟩ : ∃ T, J 299 = T := ⟨_, rfl⟩
  rw [hT] at hQ
  have lp : ∀ (r : List Int) (i : Nat) (s k : Int) (J1 : Nat → Int → Int), F.drop i = r → 0 ≤ s → s ≤ 60 → 4 * m ≤ k → k + sp_nd r ≤ 4 * m + 4 → (∀ y, ¬ y = 300 → J1 y = J y) → (∀ J', (∀ y, ¬ y = 300 → J' y = J1 y) → (∀ j, j < k → J' 300 j = J1 300 j) → ((sp_fo T n r (s, 0)).2 = 0 → ∀ j : Nat, j < sp_nd r → J' 300 (k + j) = (sp_vs T n r (s, 0)).getD j 0) → Qr (some (.inl (if (sp_fo T n r (s, 0)).2 = 0 then (sp_fo T n r (s, 0)).1 else -1 - (sp_fo T n r (s, 0)).1))) (J', L, W)) → NW sc d_X1_readForm D (13, [some (.inr (.inl (some 297))), some (.inr (.inl (some (u)))), none, some (.inl s), some (.inl k), some (.inl ((i : Int))), none, none, none], [], (J1, L, W), c, sl) Qr Qx := by
    intro r
    induction r with
    | nil =>
      intro i s k J1 hi s0 s1 k0 k1 hx1 hq
      have li : F.length ≤ i := List.drop_eq_nil_iff.mp hi
      refine b_X1_readForm_13 hD hu (by omega) ?_
      rw [hl]
      refine ⟨fun _ => ?_, fun q => by omega⟩
      exact hq J1 (fun _ _ => rfl) (fun _ _ => rfl) (fun _ j hj => absurd hj (Nat.not_lt_zero _))
    | cons ch r ih =>
      intro i s k J1 hi s0 s1 k0 k1 hx1 hq
      have li : i < F.length := by
        refine Classical.byContradiction (fun w => ?_)
        rw [List.drop_eq_nil_iff.mpr (by omega)] at hi
        cases hi
      have hc : F.getD i 0 = ch := by
        have h2 : F.drop i = F[i] :: F.drop (i + 1) := List.drop_eq_getElem_cons li
        rw [h2] at hi
        have := (List.cons.inj hi).1
        rw [List.getD_eq_getElem?_getD, List.getElem?_eq_getElem li]
        exact this
      have hr : F.drop (i + 1) = r := by
        have h2 : F.drop i = F[i] :: F.drop (i + 1) := List.drop_eq_getElem_cons li
        rw [h2] at hi
        exact (List.cons.inj hi).2
      have b := hF i li
      rw [hc] at b
      have e0 : J1 297 0 = n := by rw [hx1 297 (by decide)]; exact hn
      have eT : J1 299 = T := by rw [hx1 299 (by decide)]; exact hT
      have bad : sp_nx T n ch s = -1 → Qr (some (.inl (-1 - s))) (J1, L, W) := fun w => by
        have := hq J1 (fun _ _ => rfl) (fun _ _ => rfl)
        rw [sp_fo_no w, if_neg (show ¬ (1 : Int) = 0 by decide)] at this
        exact this (fun z => absurd z (show ¬ (1 : Int) = 0 by decide))
      have sgn : ∀ s', ¬ sp_isv ch → sp_nx T n ch s = s' → ¬ s' = -1 → NW sc d_X1_readForm D (13, [some (.inr (.inl (some 297))), some (.inr (.inl (some (u)))), none, some (.inl (s')), some (.inl k), some (.inl ((i : Int) + 1)), none, none, none], [], (J1, L, W), c, sl) Qr Qx := fun s' hv hs' hne => by
        have w : ¬ sp_nx T n ch s = -1 := by rw [hs']; exact hne
        have nd : sp_nd (ch :: r) = sp_nd r := by rw [sp_nd, if_neg hv]; omega
        have a := sp_nx_at s0 w
        rw [show (i : Int) + 1 = ((i + 1 : Nat) : Int) by omega]
        refine ih (i + 1) s' k J1 hr (by omega) (by omega) k0 (by omega) hx1 (fun J' y1 y2 y3 => ?_)
        have := hq J' y1 y2
        rw [sp_fo_ok w, hs', nd, sp_vs, if_neg hv, sp_st_ok w, hs'] at this
        exact this y3
      have num : ∀ s' v, sp_isv ch → sp_nx T n ch s = s' → ¬ s' = -1 → sp_vl T n ch s = v → NW sc d_X1_readForm D (13, [some (.inr (.inl (some 297))), some (.inr (.inl (some (u)))), none, some (.inl (s')), some (.inl (k + 1)), some (.inl ((i : Int) + 1)), none, none, none], [], (nw_u J1 300 k v, L, W), c, sl) Qr Qx := fun s' v hv hs' hne hvl => by
        have w : ¬ sp_nx T n ch s = -1 := by rw [hs']; exact hne
        have nd : sp_nd (ch :: r) = 1 + sp_nd r := by rw [sp_nd, if_pos hv]
        have a := sp_nx_at s0 w
        rw [show (i : Int) + 1 = ((i + 1 : Nat) : Int) by omega]
        refine ih (i + 1) s' (k + 1) _ hr (by omega) (by omega) (by omega) (by omega) (fun y z => by rw [nw_uP z]; exact hx1 y z) (fun J' y1 y2 y3 => ?_)
        have := hq J' (fun y z => by rw [y1 y z, nw_uP z]) (fun j hj => by rw [y2 j (by omega), nw_uI (by omega)])
        rw [sp_fo_ok w, hs', nd, sp_vs, if_pos hv, sp_st_ok w, hs'] at this
        refine this (fun z j hj => ?_)
        cases j with
        | zero =>
          have dv : sp_dV T n ch (s, 0) = v := (if_pos ⟨rfl, w⟩).trans hvl
          rw [List.getD_cons_zero, dv, show k + ((0 : Nat) : Int) = k by omega, y2 k (by omega), nw_uS]
        | succ j =>
          rw [List.getD_cons_succ, show k + ((j + 1 : Nat) : Int) = k + 1 + (j : Int) by omega]
          exact y3 z j (by omega)
      refine b_X1_readForm_13 hD hu (by omega) ?_
      rw [hl, b.1, e0, eT]
      have nd1 : sp_isv ch → k + 1 ≤ 4 * m + 4 := fun hv => by
        have : sp_nd (ch :: r) = 1 + sp_nd r := by rw [sp_nd, if_pos hv]
        omega
      refine ⟨fun q => by omega, fun q => ⟨by omega, b.2, fun c35 => ?_, fun c35 => ⟨fun c42 => ?_, fun c42 => ?_⟩⟩⟩
      · have hv : sp_isv ch := Or.inl c35
        have kk := nd1 hv
        have enx : sp_nx T n ch s = if sp_dg T n s then s + 1 else -1 := if_pos c35
        refine ⟨fun z => ⟨by omega, bad (by rw [enx, if_neg (by unfold sp_dg; omega)])⟩, fun z => ⟨by omega, fun z1 => ⟨by omega, bad (by rw [enx, if_neg (by unfold sp_dg; omega)])⟩, fun z1 => ⟨fun z2 => ⟨by omega, bad (by rw [enx, if_neg (by unfold sp_dg; omega)])⟩, fun z2 => ⟨by omega, fun _ => ⟨by omega, by omega, by omega, by omega, ?_⟩, fun w => by omega⟩⟩⟩⟩
        exact num _ _ hv (by rw [enx, if_pos ⟨z, z1, z2⟩]) (by omega) (if_neg (by omega))
      · have hv : ¬ sp_isv ch := fun w => w.elim c35 c42
        have enx : sp_nx T n ch s = if s < n ∧ T s = ch then s + 1 else -1 := by unfold sp_nx; rw [if_neg c35, if_neg c42]
        refine ⟨fun z => ⟨by omega, bad (by rw [enx, if_neg (by omega)])⟩, fun z => ⟨by omega, fun z1 => ⟨by omega, bad (by rw [enx, if_neg (by omega)])⟩, fun z1 => ⟨by omega, by omega, ?_⟩⟩⟩
        exact sgn _ hv (by rw [enx, if_pos ⟨z, z1⟩]) (by omega)
      · have hv : sp_isv ch := Or.inr c42
        have kk := nd1 hv
        have enx : sp_nx T n ch s = if sp_dg T n s then (if sp_dg T n (s + 1) then s + 2 else s + 1) else -1 := by unfold sp_nx; rw [if_neg c35, if_pos c42]
        refine ⟨fun z => ⟨by omega, bad (by rw [enx, if_neg (by unfold sp_dg; omega)])⟩, fun z => ⟨by omega, fun z1 => ⟨by omega, bad (by rw [enx, if_neg (by unfold sp_dg; omega)])⟩, fun z1 => ⟨fun z2 => ⟨by omega, bad (by rw [enx, if_neg (by unfold sp_dg; omega)])⟩, fun z2 => ⟨by omega, by omega, fun w => ?_, fun w => ⟨by omega, fun w1 => ?_, fun w1 => ⟨fun w2 => ?_, fun w2 => ?_⟩⟩⟩⟩⟩⟩
        · have nd : ¬ sp_dg T n (s + 1) := by unfold sp_dg; omega
          exact ⟨by omega, by omega, by omega, num _ _ hv (by rw [enx, if_pos ⟨z, z1, z2⟩, if_neg nd]) (by omega) (if_neg (fun y => nd y.2))⟩
        · have nd : ¬ sp_dg T n (s + 1) := by unfold sp_dg; omega
          exact ⟨by omega, by omega, by omega, num _ _ hv (by rw [enx, if_pos ⟨z, z1, z2⟩, if_neg nd]) (by omega) (if_neg (fun y => nd y.2))⟩
        · have nd : ¬ sp_dg T n (s + 1) := by unfold sp_dg; omega
          exact ⟨by omega, by omega, by omega, num _ _ hv (by rw [enx, if_pos ⟨z, z1, z2⟩, if_neg nd]) (by omega) (if_neg (fun y => nd y.2))⟩
        · have nd : sp_dg T n (s + 1) := ⟨w, w1, w2⟩
          refine ⟨by omega, by omega, by omega, by omega, by omega, by omega, by omega, ?_⟩
          exact num _ _ hv (by rw [enx, if_pos ⟨z, z1, z2⟩, if_pos nd]; omega) (by omega) (if_pos ⟨c42, nd⟩)
  refine b_X1_readForm_0 hu ?_
  rw [hm]
  refine ⟨by omega, lp F 0 x (m * 4) J rfl hx.1 hx.2 (by omega) (by omega) (fun _ _ => rfl) (fun J' y1 y2 y3 => hQ J' y1 (fun j hj => y2 j (by omega)) (fun z j hj => ?_))⟩
  rw [← y3 z j hj]
  congr 1
  omega
end

