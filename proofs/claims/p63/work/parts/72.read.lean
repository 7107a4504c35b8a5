/-! command texts: reading commands -/
section
variable {sc : Nat × (Nat → Int32)} {D : Nat} {J L : Nat → Int → Int} {W : nw_W} {c sl : Nat} {Qr : nw_QR} {Qx : nw_QX} {g : Int → Int} {B : Int}
def sp_F (k : Nat) : List Int := match k with
  | 0 => [99, 114, 97, 116, 101, 114, 32, 35]
  | 1 => [99, 104, 97, 110, 110, 101, 108, 32, 35, 35, 32, 35, 32, 35]
  | 2 => [102, 101, 114, 114, 121, 32, 35, 32, 42, 32, 42]
  | 3 => [109, 111, 111, 110, 32, 35, 35, 32, 42, 32, 35]
  | 4 => [115, 97, 105, 108, 32, 35, 32, 35]
  | 5 => [98, 111, 97, 114, 100, 32, 35, 32, 42]
  | 6 => [108, 97, 110, 100, 32, 42]
  | 7 => [108, 111, 97, 100, 32, 35]
  | 8 => [114, 101, 115, 99, 117, 101, 32, 35]
  | _ => [112, 97, 115, 115, 32, 42]
theorem sp_F_ok : ∀ k : Nat, k < 10 → mw_ol (1000001 + k + 100) = (sp_F k).length ∧ (sp_F k).length ≤ 20 ∧ 6 ≤ (sp_F k).length ∧ sp_nd (sp_F k) ≤ 4 ∧ ∀ i : Nat, i < (sp_F k).length → (nw_xiand (nw_ob (1000001 + k + 100) i) 255) % 65536 = (sp_F k).getD i 0 ∧ 0 ≤ (sp_F k).getD i 0 ∧ (sp_F k).getD i 0 < 65536 := by decide +kernel
def sp_sg (T : Int → Int) (n s : Int) : Int := if s < n then T s else -1
def sp_kd (T : Int → Int) (n s : Int) : Int :=
  if sp_sg T n s = 99 then (if sp_sg T n (s + 1) = 104 then 1 else 0) else if sp_sg T n s = 102 then 2 else if sp_sg T n s = 109 then 3 else if sp_sg T n s = 115 then 4 else if sp_sg T n s = 98 then 5 else if sp_sg T n s = 108 then (if sp_sg T n (s + 1) = 111 then 7 else 6) else if sp_sg T n s = 114 then 8 else if sp_sg T n s = 112 then 9 else -1
def sp_rd (T : Int → Int) (n s : Int) : Int × Int := if sp_kd T n s = -1 then (s, 1) else sp_fo T n (sp_F (sp_kd T n s).toNat) (s, 0)
section
variable {T : Int → Int} {n : Int}
theorem sp_kd_rng (T : Int → Int) (n s : Int) : -1 ≤ sp_kd T n s ∧ sp_kd T n s < 10 := by
  unfold sp_kd
  repeat' split
  all_goals omega
/-- the first sign of a form -/
def sp_c0 (k : Nat) : Int := (sp_F k).getD 0 0
theorem sp_F_cons : ∀ k : Nat, k < 10 → sp_F k = sp_c0 k :: (sp_F k).drop 1 ∧ ¬ sp_isv (sp_c0 k) := by decide +kernel
theorem sp_nx_c {c s : Int} (h : ¬ sp_isv c) : sp_nx T n c s = if s < n ∧ T s = c then s + 1 else -1 := by
  unfold sp_nx
  rw [if_neg (fun e => h (Or.inl e)), if_neg (fun e => h (Or.inr e))]
theorem sp_fo_0 {k : Nat} {s : Int} (hk : k < 10) (h : ¬ sp_sg T n s = sp_c0 k) : sp_fo T n (sp_F k) (s, 0) = (s, 1) := by
  have f := sp_F_cons k hk
  rw [f.1]
  refine sp_fo_no ?_
  rw [sp_nx_c f.2, if_neg]
  rintro ⟨a, b⟩
  unfold sp_sg at h
  rw [if_pos a] at h
  exact h b
theorem sp_fo_1 {k : Nat} {s : Int} (s0 : 0 ≤ s) (hk : k < 10) (hc : ¬ sp_c0 k = -1) (h : sp_sg T n s = sp_c0 k) : s < n ∧ sp_fo T n (sp_F k) (s, 0) = sp_fo T n ((sp_F k).drop 1) (s + 1, 0) := by
  have f := sp_F_cons k hk
  have a : s < n := by
    unfold sp_sg at h
    split at h
    · assumption
    · omega
  refine ⟨a, ?_⟩
  have e : sp_nx T n (sp_c0 k) s = s + 1 := by
    rw [sp_nx_c f.2, if_pos]
    unfold sp_sg at h
    rw [if_pos a] at h
    exact ⟨a, h⟩
  conv => lhs; rw [f.1]
  rw [sp_fo_ok (by rw [e]; omega), e]
theorem sp_c0s : sp_c0 0 = 99 ∧ sp_c0 1 = 99 ∧ sp_c0 2 = 102 ∧ sp_c0 3 = 109 ∧ sp_c0 4 = 115 ∧ sp_c0 5 = 98 ∧ sp_c0 6 = 108 ∧ sp_c0 7 = 108 ∧ sp_c0 8 = 114 ∧ sp_c0 9 = 112 := by decide +kernel
theorem sp_fo_2 {k : Nat} {s c : Int} {r : List Int} (hr : (sp_F k).drop 1 = c :: r) (hv : ¬ sp_isv c) (h : ¬ sp_sg T n (s + 1) = c) : sp_fo T n ((sp_F k).drop 1) (s + 1, 0) = (s + 1, 1) := by
  rw [hr]
  refine sp_fo_no ?_
  rw [sp_nx_c hv, if_neg]
  rintro ⟨a, b⟩
  unfold sp_sg at h
  rw [if_pos a] at h
  exact h b
theorem sp_c0_ne : ∀ k : Nat, k < 10 → ¬ sp_c0 k = -1 := by decide +kernel
theorem sp_drop1 : ((sp_F 0).drop 1 = 114 :: (sp_F 0).drop 2 ∧ (sp_F 1).drop 1 = 104 :: (sp_F 1).drop 2) ∧ ((sp_F 6).drop 1 = 97 :: (sp_F 6).drop 2 ∧ (sp_F 7).drop 1 = 111 :: (sp_F 7).drop 2) := by decide +kernel
theorem sp_kd_c0 {s : Int} (h : ¬ sp_kd T n s = -1) : sp_sg T n s = sp_c0 (sp_kd T n s).toNat := by
  have c := sp_c0s
  unfold sp_kd at h ⊢
  repeat' split
  all_goals (first | (simp_all; done) | (exfalso; simp_all; done) | skip)
/-- every form but the one that is due goes wrong, and no later -/
theorem sp_rd_other {k : Nat} {s : Int} (hk : k < 10) (s0 : 0 ≤ s) (s1 : s ≤ n) (h : ¬ (k : Int) = sp_kd T n s) : (sp_fo T n (sp_F k) (s, 0)).2 = 1 ∧ s ≤ (sp_fo T n (sp_F k) (s, 0)).1 ∧ (sp_fo T n (sp_F k) (s, 0)).1 ≤ (sp_rd T n s).1 := by
  have c := sp_c0s
  have dr := sp_drop1
  have kr := sp_kd_rng T n s
  have ge : s ≤ (sp_rd T n s).1 := by
    unfold sp_rd
    split
    · exact Int.le_refl _
    · exact (sp_fo_le s0 s1).1
  by_cases e : sp_sg T n s = sp_c0 k
  · have f1 := sp_fo_1 s0 hk (sp_c0_ne k hk) e
    have ge1 : ¬ sp_kd T n s = -1 → s + 1 ≤ (sp_rd T n s).1 := fun z => by
      have g1 := sp_fo_1 (k := (sp_kd T n s).toNat) s0 (by omega) (sp_c0_ne _ (by omega)) (sp_kd_c0 z)
      unfold sp_rd
      rw [if_neg z, g1.2]
      exact (sp_fo_le (by omega) (by omega)).1
    -- the pairs with one first sign
    have pair : (k = 0 ∧ sp_kd T n s = 1 ∧ sp_sg T n (s + 1) = 104) ∨ (k = 1 ∧ sp_kd T n s = 0 ∧ ¬ sp_sg T n (s + 1) = 104) ∨ (k = 6 ∧ sp_kd T n s = 7 ∧ sp_sg T n (s + 1) = 111) ∨ (k = 7 ∧ sp_kd T n s = 6 ∧ ¬ sp_sg T n (s + 1) = 111) := by
      have kk : k = 0 ∨ k = 1 ∨ k = 2 ∨ k = 3 ∨ k = 4 ∨ k = 5 ∨ k = 6 ∨ k = 7 ∨ k = 8 ∨ k = 9 := by omega
      unfold sp_kd at h ⊢
      rcases kk with rfl | rfl | rfl | rfl | rfl | rfl | rfl | rfl | rfl | rfl <;> simp [c, e] at h ⊢ <;> (first | assumption | (split <;> simp_all) | skip)
    rw [f1.2]
    rcases pair with ⟨rfl, b, d⟩ | ⟨rfl, b, d⟩ | ⟨rfl, b, d⟩ | ⟨rfl, b, d⟩
    · have := ge1 (by omega)
      rw [sp_fo_2 dr.1.1 (by decide) (by omega)]
      exact ⟨rfl, by show s ≤ s + 1; omega, this⟩
    · have := ge1 (by omega)
      rw [sp_fo_2 dr.1.2 (by decide) d]
      exact ⟨rfl, by show s ≤ s + 1; omega, this⟩
    · have := ge1 (by omega)
      rw [sp_fo_2 dr.2.1 (by decide) (by omega)]
      exact ⟨rfl, by show s ≤ s + 1; omega, this⟩
    · have := ge1 (by omega)
      rw [sp_fo_2 dr.2.2 (by decide) d]
      exact ⟨rfl, by show s ≤ s + 1; omega, this⟩
  · rw [sp_fo_0 hk e]
    exact ⟨rfl, Int.le_refl _, ge⟩
theorem sp_rd_le {s : Int} (s0 : 0 ≤ s) (s1 : s ≤ n) : s ≤ (sp_rd T n s).1 ∧ (sp_rd T n s).1 ≤ n ∧ ((sp_rd T n s).2 = 0 ∨ (sp_rd T n s).2 = 1) ∧ ((sp_rd T n s).2 = 0 → s + 6 ≤ (sp_rd T n s).1 ∧ 0 ≤ sp_kd T n s) := by
  have kr := sp_kd_rng T n s
  unfold sp_rd
  split
  · exact ⟨Int.le_refl _, s1, Or.inr rfl, fun w => absurd w (show ¬ (1 : Int) = 0 by decide)⟩
  · have a := sp_fo_le (T := T) (r := sp_F (sp_kd T n s).toNat) s0 s1
    have b := (sp_F_ok (sp_kd T n s).toNat (by omega)).2.2.1
    exact ⟨a.1, a.2.1, a.2.2.1, fun w => ⟨by have := a.2.2.2 w; omega, by omega⟩⟩
end
/-- what the class keeps of the m-th command, that was read at x -/
def sp_cmC (T : Int → Int) (n : Int) (J : Nat → Int → Int) (m x : Int) : Prop := J 298 m = sp_kd T n x ∧ 0 ≤ sp_kd T n x ∧ ∀ j : Nat, j < sp_nd (sp_F (sp_kd T n x).toNat) → J 300 (4 * m + j) = (sp_vs T n (sp_F (sp_kd T n x).toNat) (x, 0)).getD j 0
theorem t_X1_readCommand {m n s : Int} {T : Int → Int} (hm : J 297 1 = m) (m0 : 0 ≤ m ∧ m < 10) (hn : J 297 0 = n) (n0 : n ≤ 60) (hT : J 299 = T) (s0 : 0 ≤ s ∧ s ≤ n) (hD : 14 ≤ D)
    (hS : (sp_rd T n s).2 = 0 → ∀ J', (∀ y, ¬ y = 298 → ¬ y = 300 → J' y = J y) → (∀ j, j < 4 * m → J' 300 j = J 300 j) → (∀ j, ¬ j = m → J' 298 j = J 298 j) → sp_cmC T n J' m s → Qr (some (.inl (sp_rd T n s).1)) (J', L, W))
    (hF : (sp_rd T n s).2 = 1 → ∀ J', (∀ y, ¬ y = 300 → J' y = J y) → (∀ j, j < 4 * m → J' 300 j = J 300 j) → Qr (some (.inl (-1 - (sp_rd T n s).1))) (J', L, W)) : NW sc d_X1_readCommand D (0, [some (.inr (.inl (some 297))), some (.inl s), none, none, none], [], (J, L, W), c, sl) Qr Qx := by
  have kr := sp_kd_rng T n s
  have rl := sp_rd_le (T := T) s0.1 s0.2
  have lp : ∀ (r : Nat) (i z : Int) (J1 : Nat → Int → Int), 0 ≤ i → i ≤ 10 → (10 - i).toNat = r → (-1 - (sp_rd T n s).1 ≤ z ∧ z ≤ -1 - s) → (sp_kd T n s < i → z = -1 - (sp_rd T n s).1 ∧ (sp_rd T n s).2 = 1) → (∀ y, ¬ y = 300 → J1 y = J y) → (∀ j, j < 4 * m → J1 300 j = J 300 j) → NW sc d_X1_readCommand D (6, [some (.inr (.inl (some 297))), some (.inl s), some (.inl z), some (.inl i), none], [], (J1, L, W), c, sl) Qr Qx := by
    intro r9
    induction r9 using Nat.strongRecOn with
    | ind r9 ih =>
      intro i z J1 i0 i1 hr hz hk hx h3
      have e1 : J1 297 1 = m := by rw [hx 297 (by decide)]; exact hm
      have e0 : J1 297 0 = n := by rw [hx 297 (by decide)]; exact hn
      have eT : J1 299 = T := by rw [hx 299 (by decide)]; exact hT
      have call : ∀ k : Nat, k < 10 → i = k → NW sc d_X1_readForm 13 (0, [some (.inr (.inl (some 297))), some (.inr (.inl (some (1000001 + k)))), some (.inl s), none, none, none, none, none, none], [], (J1, L, W), 0, 0) (fun v M9 => NW sc d_X1_readCommand D (21, [some (.inr (.inl (some 297))), some (.inl s), some (.inl z), some (.inl i), none], nw_push v [], M9, c, sl) Qr Qx) Qx := fun k k1 ek => by
        have f := sp_F_ok k k1
        refine t_X1_readForm (F := sp_F k) ⟨by omega, by omega⟩ f.1 f.2.1 f.2.2.2.2 f.2.2.2.1 e1 m0 e0 n0 ⟨s0.1, by omega⟩ (Nat.le_refl _) (fun J2 y1 y2 y3 => b_X1_readCommand_21 hD ?_)
        rw [eT] at y3 ⊢
        have fl := sp_fo_le (T := T) (r := sp_F k) s0.1 s0.2
        have hx2 : ∀ y, ¬ y = 300 → J2 y = J y := fun y w => (y1 y w).trans (hx y w)
        have h32 : ∀ j, j < 4 * m → J2 300 j = J 300 j := fun j w => (y2 j w).trans (h3 j w)
        by_cases due : (k : Int) = sp_kd T n s
        · have erd : sp_rd T n s = sp_fo T n (sp_F k) (s, 0) := by
            unfold sp_rd
            rw [if_neg (by omega), ← due, Int.toNat_natCast]
          rw [← erd] at y3 fl ⊢
          rcases fl.2.2.1 with w | w
          · rw [if_pos w]
            refine ⟨fun q => by omega, fun _ => ?_⟩
            have e2 : J2 297 1 = m := by rw [y1 297 (by decide)]; exact e1
            rw [e2]
            refine ⟨m0, hS w _ (fun y a b => by rw [nw_uP a]; exact hx2 y b) (fun j a => by rw [nw_uP (by decide)]; exact h32 j a) (fun j a => by rw [nw_uI a, hx2 298 (by decide)]) ⟨by rw [nw_uS]; omega, by omega, fun j hj => ?_⟩⟩
            rw [← due, Int.toNat_natCast] at hj ⊢
            rw [nw_uP (by decide)]
            exact y3 w j hj
          · rw [if_neg (by omega)]
            refine ⟨fun _ => ⟨fun q => ⟨by omega, ih _ (by omega) (i + 1) _ J2 (by omega) (by omega) rfl ⟨by omega, by omega⟩ (fun _ => ⟨rfl, w⟩) hx2 h32⟩, fun q => ⟨by omega, ih _ (by omega) (i + 1) z J2 (by omega) (by omega) rfl hz (fun _ => ⟨by omega, w⟩) hx2 h32⟩⟩, fun q => by omega⟩
        · have o := sp_rd_other (T := T) k1 s0.1 s0.2 due
          rw [if_neg (by omega)]
          refine ⟨fun _ => ⟨fun q => ⟨by omega, ih _ (by omega) (i + 1) _ J2 (by omega) (by omega) rfl ⟨by omega, by omega⟩ (fun q2 => ?_) hx2 h32⟩, fun q => ⟨by omega, ih _ (by omega) (i + 1) z J2 (by omega) (by omega) rfl hz (fun q2 => ?_) hx2 h32⟩⟩, fun q => by omega⟩
          · have := hk (by omega)
            exact ⟨by omega, this.2⟩
          · exact hk (by omega)
      refine b_X1_readCommand_6 hD ⟨fun q => ?_, fun q => ⟨call 0 (by decide), fun _ => ⟨call 1 (by decide), fun _ => ⟨call 2 (by decide), fun _ => ⟨call 3 (by decide), fun _ => ⟨call 4 (by decide), fun _ => ⟨call 5 (by decide), fun _ => ⟨call 6 (by decide), fun _ => ⟨call 7 (by decide), fun _ => ⟨call 8 (by decide), fun _ => call 9 (by decide) (by omega)⟩⟩⟩⟩⟩⟩⟩⟩⟩⟩
      have := hk (by omega)
      rw [this.1]
      exact hF this.2 J1 hx h3
  exact b_X1_readCommand_0 ⟨by omega, lp _ 0 _ J (by omega) (by omega) rfl ⟨by omega, by omega⟩ (fun q => by
    have e : sp_rd T n s = (s, 1) := if_pos (by omega)
    rw [e]
    exact ⟨rfl, rfl⟩) (fun _ _ => rfl) (fun _ _ => rfl)⟩
/-- where the commands of a text begin; the position of its error, or -1 -/
def sp_pl (T : Int → Int) (n : Int) : Nat → Int → List Int × Int
  | 0, s => ([], s)
  | f + 1, s => if (sp_rd T n s).2 = 1 then ([], (sp_rd T n s).1) else if (sp_rd T n s).1 < n then (if T (sp_rd T n s).1 = 59 then (s :: (sp_pl T n f ((sp_rd T n s).1 + 1)).1, (sp_pl T n f ((sp_rd T n s).1 + 1)).2) else ([s], (sp_rd T n s).1)) else ([s], -1)
theorem t_X1_parse {n : Int} {T : Int → Int} (hn : J 297 0 = n) (n0 : 0 ≤ n ∧ n ≤ 60) (hT : J 299 = T) (hD : 15 ≤ D)
    (hQ : ∀ J', (∀ y, ¬ (297 ≤ y ∧ y ≤ 300) → J' y = J y) → J' 299 = J 299 → J' 297 0 = n → ((sp_pl T n 10 0).2 = -1 → J' 297 1 = (((sp_pl T n 10 0).1.length : Nat) : Int) ∧ ∀ i : Nat, i < (sp_pl T n 10 0).1.length → sp_cmC T n J' i ((sp_pl T n 10 0).1.getD i 0)) → Qr (some (.inl (sp_pl T n 10 0).2)) (J', L, W)) : NW sc d_X1_parse D (0, [some (.inr (.inl (some 297))), none, none], [], (J, L, W), c, sl) Qr Qx := by
  have lp : ∀ (f m : Nat) (s : Int) (J1 : Nat → Int → Int), f + m = 10 → J1 297 1 = m → J1 297 0 = n → J1 299 = T → 7 * (m : Int) ≤ s → s ≤ n → (∀ J', (∀ y, ¬ (297 ≤ y ∧ y ≤ 300) → J' y = J1 y) → J' 299 = J1 299 → J' 297 0 = n → (∀ j, j < (m : Int) → J' 298 j = J1 298 j) → (∀ j, j < 4 * (m : Int) → J' 300 j = J1 300 j) → ((sp_pl T n f s).2 = -1 → J' 297 1 = (m : Int) + (((sp_pl T n f s).1.length : Nat) : Int) ∧ ∀ i : Nat, i < (sp_pl T n f s).1.length → sp_cmC T n J' (m + i) ((sp_pl T n f s).1.getD i 0)) → Qr (some (.inl (sp_pl T n f s).2)) (J', L, W)) → NW sc d_X1_parse D (7, [some (.inr (.inl (some 297))), some (.inl s), none], [], (J1, L, W), c, sl) Qr Qx := by
    intro f
    induction f with
    | zero =>
      intro m s J1 hf h1 h0 hT s0 s1 hq
      omega
    | succ f ih =>
      intro m s J1 hf h1 h0 hT s0 s1 hq
      have rl := sp_rd_le (T := T) (n := n) (s := s) (by omega) s1
      rw [sp_pl] at hq
      refine b_X1_parse_7 hD ?_
      rw [h1]
      refine ⟨fun q => by omega, fun q => ?_⟩
      refine t_X1_readCommand h1 ⟨by omega, q⟩ h0 (by omega) hT ⟨by omega, s1⟩ (Nat.le_refl _) (fun w J2 x2 l3 l8 cm => ?_) (fun w J2 x2 l3 => ?_)
      · have b := rl.2.2.2 w
        have e1 : J2 297 1 = m := by rw [x2 297 (by decide) (by decide)]; exact h1
        have e0 : J2 297 0 = n := by rw [x2 297 (by decide) (by decide)]; exact h0
        have eT : J2 299 = T := by rw [x2 299 (by decide) (by decide)]; exact hT
        rw [if_neg (by omega)] at hq
        refine b_X1_parse_21 ⟨fun _ => ?_, fun z => by omega⟩
        rw [e1, e0, eT]
        have u0 : ∀ v : Int, nw_u J2 297 1 v 297 0 = n := fun v => by rw [nw_uI (by decide)]; exact e0
        have uT : ∀ v : Int, nw_u J2 297 1 v 299 = T := fun v => by rw [nw_uP (by decide)]; exact eT
        have ux : ∀ v y, ¬ (297 ≤ y ∧ y ≤ 300) → nw_u J2 297 1 v y = J1 y := fun v y z => by
          have z' : ¬ y = 297 := by omega
          rw [nw_uP z', x2 y (by omega) (by omega)]
        have ucm : ∀ J' : Nat → Int → Int, (∀ j, j < ((m + 1 : Nat) : Int) → J' 298 j = J2 298 j) → (∀ j, j < 4 * ((m + 1 : Nat) : Int) → J' 300 j = J2 300 j) → sp_cmC T n J' m s := fun J' a d => by
          refine ⟨by rw [a _ (by omega)]; exact cm.1, cm.2.1, fun j hj => ?_⟩
          have := (sp_F_ok (sp_kd T n s).toNat (by have := sp_kd_rng T n s; omega)).2.2.2.1
          rw [d _ (by omega)]
          exact cm.2.2 j hj
        refine ⟨by omega, fun z => ⟨by omega, fun z1 => ⟨by omega, ?_⟩, fun z1 => ?_⟩, fun z => ?_⟩
        · rw [if_pos z, if_pos z1] at hq
          rw [show (m : Int) + 1 = ((m + 1 : Nat) : Int) by omega]
          refine ih (m + 1) _ _ (by omega) nw_uS (u0 _) (uT _) (by omega) (by omega) (fun J' a1 a2 a3 a4 a5 a6 => ?_)
          have u8 : ∀ v : Int, nw_u J2 297 1 v 298 = J2 298 := fun v => nw_uP (by decide)
          have u3 : ∀ v : Int, nw_u J2 297 1 v 300 = J2 300 := fun v => nw_uP (by decide)
          rw [u8] at a4
          rw [u3] at a5
          refine hq J' (fun y z => by rw [a1 y z, ux _ y z]) (by rw [a2, uT, hT]) a3 (fun j hj => by rw [a4 j (by omega), l8 j (by omega)]) (fun j hj => by rw [a5 j (by omega), l3 j (by omega)]) (fun y => ?_)
          have b6 := a6 y
          refine ⟨by rw [b6.1, List.length_cons]; omega, fun i hi => ?_⟩
          cases i with
          | zero =>
            rw [List.getD_cons_zero, show (m : Int) + ((0 : Nat) : Int) = m by omega]
            exact ucm J' a4 a5
          | succ i =>
            rw [List.getD_cons_succ, show (m : Int) + ((i + 1 : Nat) : Int) = ((m + 1 : Nat) : Int) + i by omega]
            exact b6.2 i (by rw [List.length_cons] at hi; omega)
        · rw [if_pos z, if_neg z1] at hq
          refine hq _ (fun y z => ux _ y z) (by rw [uT, hT]) (u0 _) (fun j hj => by rw [nw_uP (by decide), l8 j (by omega)]) (fun j hj => by rw [nw_uP (by decide), l3 j (by omega)]) (fun y => ?_)
          have : (sp_rd T n s).1 = -1 := y
          omega
        · rw [if_neg (by omega)] at hq
          refine hq _ (fun y z => ux _ y z) (by rw [uT, hT]) (u0 _) (fun j hj => by rw [nw_uP (by decide), l8 j (by omega)]) (fun j hj => by rw [nw_uP (by decide), l3 j (by omega)]) (fun y => ⟨nw_uS, fun i hi => ?_⟩)
          have i0 : i = 0 := by
            have : i < 1 := hi
            omega
          rw [i0, show (m : Int) + ((0 : Nat) : Int) = m by omega]
          exact ucm _ (fun j _ => by rw [nw_uP (by decide)]) (fun j _ => by rw [nw_uP (by decide)])
      · rw [if_pos w] at hq
        refine b_X1_parse_21 ⟨fun z => by omega, fun z => ⟨by omega, ?_⟩⟩
        rw [show (-1 : Int) - (-1 - (sp_rd T n s).1) = (sp_rd T n s).1 by omega]
        refine hq J2 (fun y z => x2 y (by omega)) (x2 299 (by decide)) (by rw [x2 297 (by decide)]; exact h0) (fun j _ => by rw [x2 298 (by decide)]) l3 (fun y => ?_)
        have : (sp_rd T n s).1 = -1 := y
        omega
  refine b_X1_parse_0 ?_
  have u : ∀ y, ¬ y = 297 → nw_u J 297 1 0 y = J y := fun y w => nw_uP w
  refine lp 10 0 0 _ rfl nw_uS (by rw [nw_uI (by decide)]; exact hn) (by rw [u 299 (by decide)]; exact hT) (by omega) (by omega) (fun J' a1 a2 a3 a4 a5 a6 => hQ J' (fun y z => by rw [a1 y z, u y (by omega)]) (by rw [a2, u 299 (by decide)]) a3 (fun z => ?_))
  have := a6 z
  refine ⟨by rw [this.1]; omega, fun i hi => ?_⟩
  have h2 := this.2 i hi
  rw [show ((0 : Nat) : Int) + (i : Int) = i by omega] at h2
  exact h2
end

