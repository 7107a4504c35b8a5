/-! command texts: the reference reads -/
section
variable {sc : Nat × (Nat → Int32)} {D : Nat} {J L : Nat → Int → Int} {W : nw_W} {c sl : Nat} {Qr : nw_QR} {Qx : nw_QX} {g : Int → Int} {B : Int}
def sp_at (T : Int → Int) (n : Int) (P : Int × Int) (J : Nat → Int → Int) : Prop := (J 303 7 = n ∧ J 308 = T) ∧ (J 303 17 = P.1 ∧ J 303 18 = P.2) ∧ (P.2 = 0 ∨ P.2 = 1) ∧ 0 ≤ P.1 ∧ P.1 ≤ n ∧ n ≤ 60
def sp_rdf (J J' : Nat → Int → Int) : Prop := (∀ y, ¬ (y = 303 ∨ y = 313) → J' y = J y) ∧ ∀ j, ¬ j = 17 → ¬ j = 18 → J' 303 j = J 303 j
theorem sp_rdf.refl {J : Nat → Int → Int} : sp_rdf J J := ⟨fun _ _ => rfl, fun _ _ _ => rfl⟩
theorem sp_rdf.trans {J J1 J2 : Nat → Int → Int} (h : sp_rdf J J1) (k : sp_rdf J1 J2) : sp_rdf J J2 := ⟨fun y a => (k.1 y a).trans (h.1 y a), fun j a b => (k.2 j a b).trans (h.2 j a b)⟩
theorem sp_rdf.u {J J1 : Nat → Int → Int} {i v : Int} (h : sp_rdf J J1) : sp_rdf J (nw_u J1 313 i v) := ⟨fun y a => by
  have a' : ¬ y = 313 := fun e => a (Or.inr e)
  rw [nw_uP a']; exact h.1 y a, fun j a b => by rw [nw_uP (by decide)]; exact h.2 j a b⟩
theorem sp_at.u {T : Int → Int} {n i v : Int} {P : Int × Int} {J : Nat → Int → Int} (h : sp_at T n P J) : sp_at T n P (nw_u J 313 i v) := by
  have e : ∀ y, ¬ y = 313 → nw_u J 313 i v y = J y := fun y a => nw_uP a
  unfold sp_at
  rw [e 303 (by decide), e 308 (by decide)]
  exact h
theorem sp_st_rng {T : Int → Int} {n c : Int} {P : Int × Int} (h0 : 0 ≤ P.1) (h1 : P.1 ≤ n) : ((sp_st T n c P).2 = 0 ∨ (sp_st T n c P).2 = 1) ∧ 0 ≤ (sp_st T n c P).1 ∧ (sp_st T n c P).1 ≤ n := by
  unfold sp_st
  split
  · rename_i w
    have := sp_nx_at h0 w.2
    exact ⟨Or.inl rfl, by show 0 ≤ sp_nx T n c P.1; omega, this.2.2.1⟩
  · exact ⟨Or.inr rfl, h0, h1⟩
theorem t_X12_needs {T : Int → Int} {n x : Int} {P : Int × Int} (hx : ¬ sp_isv x) (hx0 : 0 ≤ x) (hA : sp_at T n P J) (hD : 1 ≤ D) (hQ : ∀ J', sp_rdf J J' → J' 313 = J 313 → sp_at T n (sp_st T n x P) J' → Qr none (J', L, W)) : NW sc d_X12_needs D (0, [some (.inr (.inl (some 303))), some (.inl x)], [], (J, L, W), c, sl) Qr Qx := by
  obtain ⟨⟨h7, h8⟩, ⟨h17, h18⟩, hw, p0, p1, n60⟩ := hA
  have rg := sp_st_rng (T := T) (n := n) (c := x) p0 p1
  have enx : sp_nx T n x P.1 = if P.1 < n ∧ T P.1 = x then P.1 + 1 else -1 := sp_nx_c hx
  have fin : ∀ e w, sp_st T n x P = (e, w) → Qr none (nw_u (nw_u J 303 18 w) 303 17 e, L, W) := fun e w h => by
    rw [h] at rg
    refine hQ _ ⟨fun y a => ?_, fun j a b => by rw [nw_uI a, nw_uI b]⟩ (by rw [nw_uP (by decide), nw_uP (by decide)]) ?_
    · have a' : ¬ y = 303 := fun e => a (Or.inl e)
      rw [nw_uP a', nw_uP a']
    · rw [h]
      exact ⟨⟨by rw [nw_uI (by decide), nw_uI (by decide)]; exact h7, by rw [nw_uP (by decide), nw_uP (by decide)]; exact h8⟩, ⟨nw_uS, by rw [nw_uI (by decide), nw_uS]⟩, rg.1, rg.2.1, rg.2.2, n60⟩
  refine b_X12_needs_0 hD ?_
  rw [h17, h18, h7, h8]
  refine ⟨fun z => ⟨by omega, ?_⟩, fun z => ⟨fun q => ⟨fun w => by omega, fun _ => ⟨by omega, ?_⟩⟩, fun q => ⟨by omega, fun w => ⟨by omega, ?_⟩, fun w => ⟨by omega, ?_⟩⟩⟩⟩
  · rw [Int.add_zero]
    exact fin _ _ (if_neg (fun y => z y.1))
  · rw [Int.add_zero]
    exact fin _ _ (if_neg (fun y => y.2 (by rw [enx, if_neg (by omega)])))
  · have e : sp_nx T n x P.1 = P.1 + 1 := by rw [enx, if_pos ⟨q, w⟩]
    exact fin _ _ (by unfold sp_st; rw [e, if_pos ⟨z, by omega⟩])
  · rw [Int.add_zero]
    exact fin _ _ (if_neg (fun y => y.2 (by rw [enx, if_neg (fun y => w y.2)])))
theorem t_X12_digits {T : Int → Int} {n m x : Int} {P : Int × Int} (hm : (m = 1 ∧ x = 35) ∨ (m = 2 ∧ x = 42)) (hA : sp_at T n P J) (hD : 1 ≤ D) (hQ : ∀ J', sp_rdf J J' → J' 313 = J 313 → sp_at T n (sp_st T n x P) J' → Qr (some (.inl (sp_dV T n x P))) (J', L, W)) : NW sc d_X12_digits D (0, [some (.inr (.inl (some 303))), some (.inl m), none, none], [], (J, L, W), c, sl) Qr Qx := by
  obtain ⟨⟨h7, h8⟩, ⟨h17, h18⟩, hw, p0, p1, n60⟩ := hA
  have rg := sp_st_rng (T := T) (n := n) (c := x) p0 p1
  have fin : ∀ (J1 : Nat → Int → Int) e w v, (∀ y, ¬ y = 303 → J1 y = J y) → (∀ j, ¬ j = 17 → ¬ j = 18 → J1 303 j = J 303 j) → J1 303 17 = e → J1 303 18 = w → sp_st T n x P = (e, w) → sp_dV T n x P = v → Qr (some (.inl v)) (J1, L, W) := fun J1 e w v a1 a2 a3 a4 h hv => by
    rw [h] at rg
    rw [← hv]
    refine hQ J1 ⟨fun y a => a1 y (fun e => a (Or.inl e)), a2⟩ (a1 313 (by decide)) ?_
    rw [h]
    exact ⟨⟨by rw [a2 7 (by decide) (by decide)]; exact h7, by rw [a1 308 (by decide)]; exact h8⟩, ⟨a3, a4⟩, rg.1, rg.2.1, rg.2.2, n60⟩
  have nx0 : ¬ sp_dg T n P.1 → sp_nx T n x P.1 = -1 := fun d => by
    unfold sp_nx
    rcases hm with ⟨_, e⟩ | ⟨_, e⟩
    · rw [if_pos e, if_neg d]
    · rw [if_neg (by omega), if_pos e, if_neg d]
  have bad : ¬ (P.2 = 0 ∧ sp_dg T n P.1) → NW sc d_X12_digits D (34, [some (.inr (.inl (some 303))), some (.inl m), some (.inl 0), some (.inl 0)], [], (nw_u J 303 18 1, L, W), c, sl) Qr Qx := fun d => by
    have e : sp_st T n x P = (P.1, 1) := if_neg (fun y => y.2 (nx0 (fun z => d ⟨y.1, z⟩)))
    have ev : sp_dV T n x P = 0 := if_neg (fun y => y.2 (nx0 (fun z => d ⟨y.1, z⟩)))
    have u : nw_u J 303 18 1 303 18 = 1 := nw_uS
    refine b_X12_digits_34 hD ?_
    rw [u]
    refine ⟨fun _ => fin _ _ _ _ (fun y a => nw_uP a) (fun j _ b => nw_uI b) (by rw [nw_uI (by decide)]; exact h17) u e ev, fun z => absurd z (by decide)⟩
  refine b_X12_digits_0 hD ?_
  rw [h18, h17, h7, h8]
  refine ⟨fun z => bad (fun y => z y.1), fun z => ⟨fun q => bad (fun y => by have := y.2.1; omega), fun q => ⟨by omega, fun w => bad (fun y => by have := y.2.2.1; omega), fun w => ⟨fun w1 => bad (fun y => by have := y.2.2.2; omega), fun w1 => ?_⟩⟩⟩⟩
  have d : sp_dg T n P.1 := ⟨q, w, w1⟩
  have u7 : ∀ v, nw_u (nw_u J 303 18 0) 303 17 v 303 7 = n := fun v => by rw [nw_uI (by decide), nw_uI (by decide)]; exact h7
  have u8 : ∀ v, nw_u (nw_u J 303 18 0) 303 17 v 308 = T := fun v => by rw [nw_uP (by decide), nw_uP (by decide)]; exact h8
  have u18 : ∀ v, nw_u (nw_u J 303 18 0) 303 17 v 303 18 = 0 := fun v => by rw [nw_uI (by decide), nw_uS]
  have u17 : ∀ v, nw_u (nw_u J 303 18 0) 303 17 v 303 17 = v := fun v => nw_uS
  have uy : ∀ v y, ¬ y = 303 → nw_u (nw_u J 303 18 0) 303 17 v y = J y := fun v y a => by rw [nw_uP a, nw_uP a]
  have uj : ∀ v j, ¬ j = 17 → ¬ j = 18 → nw_u (nw_u J 303 18 0) 303 17 v 303 j = J 303 j := fun v j a b => by rw [nw_uI a, nw_uI b]
  have a18 : nw_u J 303 18 0 303 18 = 0 := nw_uS
  have a17 : nw_u J 303 18 0 303 17 = P.1 := by rw [nw_uI (by decide)]; exact h17
  have a7 : nw_u J 303 18 0 303 7 = n := by rw [nw_uI (by decide)]; exact h7
  have a8 : nw_u J 303 18 0 308 = T := by rw [nw_uP (by decide)]; exact h8
  refine b_X12_digits_34 hD ?_
  rw [a18, a17, a7, a8]
  refine ⟨fun y => absurd rfl y, fun _ => ⟨fun y => by omega, fun _ => ⟨fun y => by omega, fun _ => ⟨by omega, fun y => by omega, fun _ => ⟨fun y => by omega, fun _ => ⟨by omega, by omega, by omega, by omega, by omega, ?_⟩⟩⟩⟩⟩⟩
  refine b_X12_digits_34 hD ?_
  rw [u18, u17, u7, u8]
  rcases hm with ⟨hm, e⟩ | ⟨hm, e⟩
  · have ex : sp_nx T n x P.1 = P.1 + 1 := by unfold sp_nx; rw [if_pos e, if_pos d]
    have es : sp_st T n x P = (P.1 + 1, 0) := by unfold sp_st; rw [ex, if_pos ⟨z, by omega⟩]
    have ev : sp_dV T n x P = 10 * 0 + T P.1 - 48 := by unfold sp_dV sp_vl; rw [ex, if_pos ⟨z, by omega⟩, if_neg (by omega)]; omega
    exact ⟨fun y => absurd rfl y, fun _ => ⟨fun _ => fin _ _ _ _ (uy _) (uj _) (u17 _) (u18 _) es ev, fun y => by omega⟩⟩
  · have ex : sp_nx T n x P.1 = if sp_dg T n (P.1 + 1) then P.1 + 2 else P.1 + 1 := by unfold sp_nx; rw [if_neg (by omega), if_pos e, if_pos d]
    have one : ¬ sp_dg T n (P.1 + 1) → Qr (some (.inl (10 * 0 + T P.1 - 48))) (nw_u (nw_u J 303 18 0) 303 17 (P.1 + 1), L, W) := fun y => by
      rw [if_neg y] at ex
      exact fin _ _ _ _ (uy _) (uj _) (u17 _) (u18 _) (by unfold sp_st; rw [ex, if_pos ⟨z, by omega⟩]) (by unfold sp_dV sp_vl; rw [ex, if_pos ⟨z, by omega⟩, if_neg (fun v => y v.2)]; omega)
    refine ⟨fun y => absurd rfl y, fun _ => ⟨fun y => by omega, fun _ => ⟨fun y => one (fun v => by have := v.1; omega), fun y => ⟨by omega, fun y1 => one (fun v => by have := v.2.1; omega), fun y1 => ⟨fun y2 => one (fun v => by have := v.2.2; omega), fun y2 => ⟨by omega, by omega, by omega, by omega, by omega, ?_⟩⟩⟩⟩⟩⟩
    have d2 : sp_dg T n (P.1 + 1) := ⟨y, y1, y2⟩
    rw [if_pos d2] at ex
    have v18 : nw_u (nw_u (nw_u J 303 18 0) 303 17 (P.1 + 1)) 303 17 (P.1 + 1 + 1) 303 18 = 0 := by rw [nw_uI (by decide)]; exact u18 _
    refine b_X12_digits_34 hD ?_
    rw [v18]
    refine ⟨fun y => absurd rfl y, fun _ => ⟨fun _ => fin _ (P.1 + 2) 0 _ (fun y a => by rw [nw_uP a]; exact uy _ y a) (fun j a b => by rw [nw_uI a]; exact uj _ j a b) (by rw [nw_uS]; omega) v18 (by unfold sp_st; rw [ex, if_pos ⟨z, by omega⟩]) (by unfold sp_dV sp_vl; rw [ex, if_pos ⟨z, by omega⟩, if_pos ⟨e, d2⟩]; omega), fun y => by omega⟩⟩
/-- what was read so far of the command kept from k on: the pieces l, from P on; what was there before: J -/
def sp_prs (T : Int → Int) (n k : Int) (l : List Int) (P : Int × Int) (J J' : Nat → Int → Int) : Prop := sp_rdf J J' ∧ (∀ j, j ≤ k → J' 313 j = J 313 j) ∧ sp_at T n (sp_fo T n l P) J' ∧ ∀ j : Nat, j < sp_nd l → J' 313 (k + 1 + j) = (sp_vs T n l P).getD j 0
theorem sp_fo_app {T : Int → Int} {n x : Int} : ∀ {l : List Int} {P : Int × Int}, sp_fo T n (l ++ [x]) P = sp_st T n x (sp_fo T n l P)
  | [], _ => rfl
  | c :: r, P => by
    show sp_fo T n (r ++ [x]) (sp_st T n c P) = _
    rw [sp_fo_app]
    rfl
theorem sp_nd_app {x : Int} : ∀ {l : List Int}, sp_nd (l ++ [x]) = sp_nd l + if sp_isv x then 1 else 0
  | [] => by
    show (if sp_isv x then 1 else 0) + sp_nd [] = sp_nd [] + _
    rw [Nat.add_comm]
  | c :: r => by
    show (if sp_isv c then 1 else 0) + sp_nd (r ++ [x]) = ((if sp_isv c then 1 else 0) + sp_nd r) + _
    rw [sp_nd_app, Nat.add_assoc]
theorem sp_vs_app {T : Int → Int} {n x : Int} : ∀ {l : List Int} {P : Int × Int}, sp_vs T n (l ++ [x]) P = sp_vs T n l P ++ (if sp_isv x then [sp_dV T n x (sp_fo T n l P)] else [])
  | [], P => by
    show (if sp_isv x then sp_dV T n x P :: sp_vs T n [] (sp_st T n x P) else sp_vs T n [] (sp_st T n x P)) = [] ++ _
    rw [List.nil_append]
    rfl
  | c :: r, P => by
    show (if sp_isv c then sp_dV T n c P :: sp_vs T n (r ++ [x]) (sp_st T n c P) else sp_vs T n (r ++ [x]) (sp_st T n c P)) = (if sp_isv c then sp_dV T n c P :: sp_vs T n r (sp_st T n c P) else sp_vs T n r (sp_st T n c P)) ++ _
    rw [sp_vs_app]
    split
    · rfl
    · rfl
section
variable {T : Int → Int} {n k : Int} {l : List Int} {P : Int × Int} {J0 : Nat → Int → Int}
theorem sp_prs.start (h : sp_at T n P J) : sp_prs T n k [] P J J := ⟨sp_rdf.refl, fun _ _ => rfl, h, fun j hj => absurd hj (Nat.not_lt_zero _)⟩
theorem t_need {x : Int} (hp : sp_prs T n k l P J0 J) (hx : ¬ sp_isv x ∧ 0 ≤ x) (hD : 1 ≤ D) (hQ : ∀ J', sp_prs T n k (l ++ [x]) P J0 J' → Qr none (J', L, W)) : NW sc d_X12_needs D (0, [some (.inr (.inl (some 303))), some (.inl x)], [], (J, L, W), c, sl) Qr Qx :=
  t_X12_needs hx.1 hx.2 hp.2.2.1 hD (fun J' a b d => hQ J' ⟨hp.1.trans a, fun j w => by rw [b]; exact hp.2.1 j w, by rw [sp_fo_app]; exact d, fun j hj => by
    rw [sp_nd_app, if_neg hx.1] at hj
    rw [sp_vs_app, if_neg hx.1, List.append_nil, b]
    exact hp.2.2.2 j hj⟩)
theorem t_three {x y z : Int} (hp : sp_prs T n k l P J0 J) (hx : ¬ sp_isv x ∧ 0 ≤ x) (hy : ¬ sp_isv y ∧ 0 ≤ y) (hz : ¬ sp_isv z ∧ 0 ≤ z) (hD : 2 ≤ D) (hQ : ∀ J', sp_prs T n k (l ++ [x] ++ [y] ++ [z]) P J0 J' → Qr none (J', L, W)) : NW sc d_X12_needsThree D (0, [some (.inr (.inl (some 303))), some (.inl x), some (.inl y), some (.inl z)], [], (J, L, W), c, sl) Qr Qx :=
  b_X12_needsThree_0 hD (t_need hp hx (Nat.le_refl _) (fun J1 h1 => b_X12_needsThree_5 hD (t_need h1 hy (Nat.le_refl _) (fun J2 h2 => b_X12_needsThree_10 hD (t_need h2 hz (Nat.le_refl _) (fun J3 h3 => b_X12_needsThree_15 (hQ J3 h3)))))))
theorem t_digit {m x i : Int} (hp : sp_prs T n k l P J0 J) (hm : (m = 1 ∧ x = 35) ∨ (m = 2 ∧ x = 42)) (hi : i = k + 1 + (sp_nd l : Nat)) (hD : 1 ≤ D) (hQ : ∀ J' v, sp_prs T n k (l ++ [x]) P J0 (nw_u J' 313 i v) → Qr (some (.inl v)) (J', L, W)) : NW sc d_X12_digits D (0, [some (.inr (.inl (some 303))), some (.inl m), none, none], [], (J, L, W), c, sl) Qr Qx := by
  have hv : sp_isv x := by
    rcases hm with h | h
    · exact Or.inl h.2
    · exact Or.inr h.2
  refine t_X12_digits hm hp.2.2.1 hD (fun J' a b d => hQ J' _ ⟨(hp.1.trans a).u, fun j w => by rw [nw_uI (by omega), b]; exact hp.2.1 j w, by rw [sp_fo_app]; exact d.u, fun j hj => ?_⟩)
  rw [sp_nd_app, if_pos hv] at hj
  rw [sp_vs_app, if_pos hv]
  by_cases w : j < sp_nd l
  · rw [nw_uI (by omega), b, hp.2.2.2 j w, List.getD_eq_getElem?_getD, List.getD_eq_getElem?_getD, List.getElem?_append_left (by rw [sp_vs_len]; exact w)]
  · have e : j = sp_nd l := by omega
    rw [e, ← hi, nw_uS, List.getD_eq_getElem?_getD, List.getElem?_append_right (by rw [sp_vs_len]; omega), sp_vs_len, Nat.sub_self]
    rfl
theorem t_after {m x i : Int} (hp : sp_prs T n k l P J0 J) (hm : (m = 1 ∧ x = 35) ∨ (m = 2 ∧ x = 42)) (hi : i = k + 1 + (sp_nd l : Nat)) (hD : 2 ≤ D) (hQ : ∀ J' v, sp_prs T n k (l ++ [32] ++ [x]) P J0 (nw_u J' 313 i v) → Qr (some (.inl v)) (J', L, W)) : NW sc d_X12_digitsAfter D (0, [some (.inr (.inl (some 303))), some (.inl m)], [], (J, L, W), c, sl) Qr Qx :=
  b_X12_digitsAfter_0 hD (t_need hp (by decide) (by omega) (fun J1 h1 => b_X12_digitsAfter_6 hD (t_digit h1 hm (by rw [sp_nd_app, if_neg (by decide)]; exact hi) (by omega) (fun J2 v h2 => b_X12_digitsAfter_11 (hQ J2 v h2)))))
end
section
variable {T : Int → Int} {n k : Int} {P : Int × Int}
theorem t_X12_parsesFerry (hA : sp_at T n P J) (hk : 0 ≤ k ∧ k < 290) (hD : 3 ≤ D) (hQ : ∀ J', sp_prs T n k ((sp_F 2).drop 1) P J J' → Qr none (J', L, W)) : NW sc d_X12_parsesFerry D (0, [some (.inr (.inl (some 303))), some (.inl k)], [], (J, L, W), c, sl) Qr Qx := by
  refine b_X12_parsesFerry_0 hD (t_three (sp_prs.start (k := k) hA) (by decide) (by decide) (by decide) (by decide) (fun J1 h1 => b_X12_parsesFerry_10 hD (t_need h1 (by decide) (by decide) (fun J2 h2 => b_X12_parsesFerry_16 hD ⟨by omega, ?_⟩))))
  refine t_after (i := k + 1) h2 (Or.inl ⟨rfl, rfl⟩) (by show k + 1 = k + 1 + ((0 : Nat) : Int); omega) (by decide) (fun J3 v h3 => b_X12_parsesFerry_28 hD ⟨by omega, by omega, ?_⟩)
  refine t_after (i := k + 2) h3 (Or.inr ⟨rfl, rfl⟩) (by show k + 2 = k + 1 + ((1 : Nat) : Int); omega) (by decide) (fun J4 v h4 => b_X12_parsesFerry_41 hD ⟨by omega, by omega, ?_⟩)
  exact t_after (i := k + 3) h4 (Or.inr ⟨rfl, rfl⟩) (by show k + 3 = k + 1 + ((2 : Nat) : Int); omega) (by decide) (fun J5 v h5 => b_X12_parsesFerry_54 ⟨by omega, hQ _ h5⟩)
theorem t_X12_parsesMoon (hA : sp_at T n P J) (hk : 0 ≤ k ∧ k < 290) (hD : 3 ≤ D) (hQ : ∀ J', sp_prs T n k ((sp_F 3).drop 1) P J J' → Qr none (J', L, W)) : NW sc d_X12_parsesMoon D (0, [some (.inr (.inl (some 303))), some (.inl k)], [], (J, L, W), c, sl) Qr Qx := by
  refine b_X12_parsesMoon_0 hD (t_three (sp_prs.start (k := k) hA) (by decide) (by decide) (by decide) (by decide) (fun J1 h1 => b_X12_parsesMoon_10 hD ⟨by omega, ?_⟩))
  refine t_after (i := k + 1) h1 (Or.inl ⟨rfl, rfl⟩) (by show k + 1 = k + 1 + ((0 : Nat) : Int); omega) (by decide) (fun J3 v h3 => b_X12_parsesMoon_22 hD ⟨by omega, by omega, ?_⟩)
  refine t_digit (i := k + 2) h3 (Or.inl ⟨rfl, rfl⟩) (by show k + 2 = k + 1 + ((1 : Nat) : Int); omega) (by decide) (fun J4 v h4 => b_X12_parsesMoon_35 hD ⟨by omega, by omega, ?_⟩)
  refine t_after (i := k + 3) h4 (Or.inr ⟨rfl, rfl⟩) (by show k + 3 = k + 1 + ((2 : Nat) : Int); omega) (by decide) (fun J5 v h5 => b_X12_parsesMoon_48 hD ⟨by omega, by omega, ?_⟩)
  exact t_after (i := k + 4) h5 (Or.inl ⟨rfl, rfl⟩) (by show k + 4 = k + 1 + ((3 : Nat) : Int); omega) (by decide) (fun J6 v h6 => b_X12_parsesMoon_61 ⟨by omega, hQ _ h6⟩)
theorem t_X12_parsesC {s : Int} (hA : sp_at T n (s, 0) J) (hk : 0 ≤ k ∧ k < 290) (hD : 3 ≤ D) (hQ0 : ¬ sp_sg T n s = 104 → ∀ J', sp_prs T n k ((sp_F 0).drop 1) (s, 0) J J' → Qr none (J', L, W)) (hQ1 : sp_sg T n s = 104 → ∀ J', sp_prs T n k ((sp_F 1).drop 1) (s, 0) (nw_u J 313 k 104) J' → Qr none (J', L, W)) : NW sc d_X12_parsesC D (0, [some (.inr (.inl (some 303))), some (.inl k)], [], (J, L, W), c, sl) Qr Qx := by
  have hA' := hA
  obtain ⟨⟨h7, h8⟩, ⟨h17, h18⟩, hw, p0, p1, n60⟩ := hA
  have q0 : ¬ sp_sg T n s = 104 → NW sc d_X12_needsThree 2 (0, [some (.inr (.inl (some 303))), some (.inl 114), some (.inl 97), some (.inl 116)], [], (J, L, W), 0, 0) (fun v M9 => NW sc d_X12_parsesC D (102, [some (.inr (.inl (some 303))), some (.inl k)], nw_push v [], M9, c, sl) Qr Qx) Qx := fun z => by
    refine t_three (sp_prs.start (k := k) hA') (by decide) (by decide) (by decide) (by decide) (fun J1 h1 => b_X12_parsesC_102 hD (t_need h1 (by decide) (by decide) (fun J2 h2 => b_X12_parsesC_108 hD (t_need h2 (by decide) (by decide) (fun J3 h3 => b_X12_parsesC_114 hD ⟨by omega, ?_⟩)))))
    exact t_after (i := k + 1) h3 (Or.inl ⟨rfl, rfl⟩) (by show k + 1 = k + 1 + ((0 : Nat) : Int); omega) (by decide) (fun J4 v h4 => b_X12_parsesC_126 ⟨by omega, hQ0 z _ h4⟩)
  refine b_X12_parsesC_0 hD ?_
  rw [h7, h8, h17]
  refine ⟨fun z => q0 (by unfold sp_sg; rw [if_neg (by show ¬ s < n; have : n ≤ s := z; omega)]; decide), fun z => ⟨⟨p0, by have : s < n := z; show s < 60; omega⟩, fun w => q0 (by unfold sp_sg; rw [if_pos z]; exact w), fun w => ⟨by omega, ?_⟩⟩⟩
  have sg : sp_sg T n s = 104 := by unfold sp_sg; rw [if_pos z]; exact w
  refine t_three (sp_prs.start (k := k) hA'.u) (by decide) (by decide) (by decide) (by decide) (fun J1 h1 => b_X12_parsesC_27 hD (t_three h1 (by decide) (by decide) (by decide) (by decide) (fun J2 h2 => b_X12_parsesC_37 hD ⟨by omega, ?_⟩)))
  refine t_after (i := k + 1) h2 (Or.inl ⟨rfl, rfl⟩) (by show k + 1 = k + 1 + ((0 : Nat) : Int); omega) (by decide) (fun J3 v h3 => b_X12_parsesC_49 hD ⟨by omega, by omega, ?_⟩)
  refine t_digit (i := k + 2) h3 (Or.inl ⟨rfl, rfl⟩) (by show k + 2 = k + 1 + ((1 : Nat) : Int); omega) (by decide) (fun J4 v h4 => b_X12_parsesC_62 hD ⟨by omega, by omega, ?_⟩)
  refine t_after (i := k + 3) h4 (Or.inl ⟨rfl, rfl⟩) (by show k + 3 = k + 1 + ((2 : Nat) : Int); omega) (by decide) (fun J5 v h5 => b_X12_parsesC_75 hD ⟨by omega, by omega, ?_⟩)
  exact t_after (i := k + 4) h5 (Or.inl ⟨rfl, rfl⟩) (by show k + 4 = k + 1 + ((3 : Nat) : Int); omega) (by decide) (fun J6 v h6 => b_X12_parsesC_88 ⟨by omega, hQ1 sg _ h6⟩)
theorem t_X12_parsesL {s : Int} (hA : sp_at T n (s, 0) J) (hk : 0 ≤ k ∧ k < 290) (hD : 3 ≤ D) (hQ0 : ¬ sp_sg T n s = 111 → ∀ J', sp_prs T n k ((sp_F 6).drop 1) (s, 0) J J' → Qr none (J', L, W)) (hQ1 : sp_sg T n s = 111 → ∀ J', sp_prs T n k ((sp_F 7).drop 1) (s, 0) (nw_u J 313 k 111) J' → Qr none (J', L, W)) : NW sc d_X12_parsesL D (0, [some (.inr (.inl (some 303))), some (.inl k)], [], (J, L, W), c, sl) Qr Qx := by
  have hA' := hA
  obtain ⟨⟨h7, h8⟩, ⟨h17, h18⟩, hw, p0, p1, n60⟩ := hA
  have q0 : ¬ sp_sg T n s = 111 → NW sc d_X12_needsThree 2 (0, [some (.inr (.inl (some 303))), some (.inl 97), some (.inl 110), some (.inl 100)], [], (J, L, W), 0, 0) (fun v M9 => NW sc d_X12_parsesL D (53, [some (.inr (.inl (some 303))), some (.inl k)], nw_push v [], M9, c, sl) Qr Qx) Qx := fun z => by
    refine t_three (sp_prs.start (k := k) hA') (by decide) (by decide) (by decide) (by decide) (fun J1 h1 => b_X12_parsesL_53 hD ⟨by omega, ?_⟩)
    exact t_after (i := k + 1) h1 (Or.inr ⟨rfl, rfl⟩) (by show k + 1 = k + 1 + ((0 : Nat) : Int); omega) (by decide) (fun J4 v h4 => b_X12_parsesL_65 ⟨by omega, hQ0 z _ h4⟩)
  refine b_X12_parsesL_0 hD ?_
  rw [h7, h8, h17]
  refine ⟨fun z => q0 (by unfold sp_sg; rw [if_neg (by show ¬ s < n; have : n ≤ s := z; omega)]; decide), fun z => ⟨⟨p0, by have : s < n := z; show s < 60; omega⟩, fun w => q0 (by unfold sp_sg; rw [if_pos z]; exact w), fun w => ⟨by omega, ?_⟩⟩⟩
  have sg : sp_sg T n s = 111 := by unfold sp_sg; rw [if_pos z]; exact w
  refine t_three (sp_prs.start (k := k) hA'.u) (by decide) (by decide) (by decide) (by decide) (fun J1 h1 => b_X12_parsesL_27 hD ⟨by omega, ?_⟩)
  exact t_after (i := k + 1) h1 (Or.inl ⟨rfl, rfl⟩) (by show k + 1 = k + 1 + ((0 : Nat) : Int); omega) (by decide) (fun J4 v h4 => b_X12_parsesL_39 ⟨by omega, hQ1 sg _ h4⟩)
end
end
