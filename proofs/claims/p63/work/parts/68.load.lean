/-! the best load is loaded -/
section
variable {sc : Nat × (Nat → Int32)} {D : Nat} {J L : Nat → Int → Int} {W : nw_W} {c sl : Nat} {Qr : nw_QR} {Qx : nw_QX} {g : Int → Int} {B : Int}
def sp_fLoad (g : Int → Int) (f e : Int) : Prop := (e = -1 ∧ ¬ sp_isF g f) ∨ (e = -4 ∧ sp_isF g f ∧ (0 < g (62 + f) ∨ (g (62 + f) ≤ 0 ∧ sp_sS g f = 1)))
def sp_oLoad (g : Int → Int) (f : Int) : Prop := sp_isF g f ∧ g (62 + f) ≤ 0 ∧ sp_sS g f = 0
def sp_isB (g : Int → Int) (f s : Int) : Prop := 121 ≤ s ∧ (sp_best g f).2 (s - 121)
noncomputable def sp_gLoad (g : Int → Int) (f : Int) : Int → Int := fun s => @ite Int (sp_isB g f s) (Classical.propDecidable _) (10 + f) (g s)
noncomputable def sp_nLoad (g : Int → Int) (f : Int) : Int := sp_sum (fun p => sp_b ((sp_best g f).2 p)) (g 4).toNat
theorem sp_gLoadT {g : Int → Int} {f s : Int} (h : sp_isB g f s) : sp_gLoad g f s = 10 + f := if_pos h
theorem sp_gLoadF {g : Int → Int} {f s : Int} (h : ¬ sp_isB g f s) : sp_gLoad g f s = g s := if_neg h
theorem sp_best_in {g : Int → Int} {f p : Int} (h : (sp_best g f).2 p) : 0 ≤ p ∧ p < g 4 ∧ sp_can g f p := by
  have := (sp_E_in h).2.2
  exact ⟨this.1, this.2.1, this⟩
theorem sp_gLoad_out {g : Int → Int} {f s : Int} (h4 : g 4 ≤ 10) (h : s < 121 ∨ 131 ≤ s) : sp_gLoad g f s = g s := sp_gLoadF (fun w => by have := sp_best_in w.2; have := w.1; omega)
theorem sp_isB_at {g : Int → Int} {f p : Int} : sp_isB g f (121 + p) ↔ (sp_best g f).2 p := by
  unfold sp_isB
  rw [show 121 + p - 121 = p by omega]
  exact ⟨fun h => h.2, fun h => ⟨by have := sp_best_in h; omega, h⟩⟩
theorem sp_sum_add3 {f h k : Int → Int} : ∀ {n : Nat}, (∀ i : Int, 0 ≤ i → i < n → h i = f i + k i) → sp_sum h n = sp_sum f n + sp_sum k n
  | 0, _ => rfl
  | n + 1, e => by
    rw [sp_sum, sp_sum, sp_sum, sp_sum_add3 (n := n) (fun i a b => e i a (by omega)), e n (by omega) (by omega)]
    omega
theorem inv_load {g : Int → Int} {B f : Int} (h : Inv g B) (hf : 0 ≤ f ∧ f < g 3) : Inv (sp_gLoad g f) B := by
  have km := h.mo
  have k3 := h.fe
  have kc := h.cr
  have fi := h.fer f hf.1 hf.2
  have e : ∀ s, (s < 121 ∨ 131 ≤ s) → sp_gLoad g f s = g s := fun s a => sp_gLoad_out km.2 a
  have e0 := e 0 (by omega)
  have e1 := e 1 (by omega)
  have e2 := e 2 (by omega)
  have e3 := e 3 (by omega)
  have e4 := e 4 (by omega)
  have e5 := e 5 (by omega)
  refine ⟨h.bd, by rw [e0]; exact h.ho, by rw [e1]; exact h.cr, by rw [e2]; exact h.ch, by rw [e3]; exact h.fe, by rw [e4]; exact h.mo, by rw [e5]; exact h.nx, by rw [e 6 (by omega)]; exact h.fa, by rw [e 7 (by omega)]; exact h.re, by rw [e 8 (by omega)]; exact h.pa, by rw [e 9 (by omega)]; exact h.sn, h.dep_to e1 (fun s a b => e s (by omega)), h.cha_to e1 e2 (fun s a b => e s (by omega)), h.uni_to e2 (fun s a b => e s (by omega)), h.fer_to (by omega) e3 e0 (fun s a b => e s (by omega)), fun q a b => ?_, fun k a b => ?_, h.zer_to e3 (fun s a b => e s (by omega))⟩
  · rw [e4] at b
    have mq := h.moo q a b
    rw [e (71 + q) (by omega), e (81 + q) (by omega), e (91 + q) (by omega), e (101 + q) (by omega), e (111 + q) (by omega), e1, e3, e5]
    rcases Classical.em (sp_isB g f (121 + q)) with z | z
    · rw [sp_gLoadT z]
      omega
    · rw [sp_gLoadF z]
      exact mq
  · rw [e3] at b
    rw [e (68 + k) (by omega)]
    have ck := h.car k a b
    have cf := h.car f hf.1 hf.2
    have es := sp_E_sum (C := sp_can g f) (w := sp_wt g) (v := sp_fare g) (k := (g 4).toNat) (p := 0) (r := g (68 + f) - sp_car g f) (by omega)
    have key : sp_car (sp_gLoad g f) k = sp_car g k + if k = f then sp_sum (fun x => sp_if ((sp_best g f).2 x) (sp_wt g x)) (g 4).toNat else 0 := by
      unfold sp_car
      rw [e4]
      by_cases w : k = f
      · rw [if_pos w]
        refine sp_sum_add3 (fun i i0 i1 => ?_)
        have mi := h.moo i i0 (by omega)
        unfold sp_w
        rw [e (101 + i) (by omega)]
        rcases Classical.em ((sp_best g f).2 i) with z | z
        · have cn := (sp_best_in z).2.2.2.2.1
          rw [sp_gLoadT (sp_isB_at.mpr z), sp_ifT z, if_pos (by omega), if_neg (by omega)]
          unfold sp_wt
          omega
        · rw [sp_gLoadF (fun y => z (sp_isB_at.mp y)), sp_ifF z]
          omega
      · rw [if_neg w, Int.add_zero]
        refine sp_sum_congr (fun i i0 i1 => ?_)
        have mi := h.moo i i0 (by omega)
        unfold sp_w
        rw [e (101 + i) (by omega)]
        rcases Classical.em ((sp_best g f).2 i) with z | z
        · have cn := (sp_best_in z).2.2.2.2.1
          rw [sp_gLoadT (sp_isB_at.mpr z), if_neg (by omega), if_neg (by omega)]
        · rw [sp_gLoadF (fun y => z (sp_isB_at.mp y))]
    rw [key]
    by_cases w : k = f
    · rw [if_pos w, sp_tl_sum, w]
      have := es.1
      unfold sp_best
      omega
    · rw [if_neg w]
      omega
theorem fut_load {g : Int → Int} {f : Int} (h4 : g 4 ≤ 10) (h3 : g 3 ≤ 3) (h : sp_fut g) : sp_fut (sp_gLoad g f) := fun k a b => by
  rw [sp_gLoad_out h4 (by omega)] at b
  rw [sp_gLoad_out h4 (by omega), sp_gLoad_out h4 (by omega)]
  exact h k a b
theorem sp_pc_gap {g : Int → Int} {f : Int} {J : Nat → Int → Int} {n i : Int} (hl : sp_gl g f J n (g 4)) (i0 : 0 ≤ i) (i1 : i < n) : sp_pc J n (g 4) i = J 27 i ∧ J 27 i + 1 ≤ sp_pc J n (g 4) (i + 1) ∧ ∀ x, J 27 i + 1 ≤ x → x < sp_pc J n (g 4) (i + 1) → ¬ sp_can g f x := by
  have hi := hl.2.1 i i0 i1
  have pn := sp_pc_in hl (i := i + 1) (by omega)
  refine ⟨if_pos i1, ?_, fun x a b hc => ?_⟩
  · unfold sp_pc
    split
    · rename_i h
      have := hl.2.2.1 i (i + 1) i0 (by omega) h
      omega
    · omega
  · obtain ⟨j, j0, j1, j2⟩ := hl.2.2.2 x (by omega) (by omega) hc
    rcases Int.lt_trichotomy j i with q | q | q
    · have := hl.2.2.1 j i j0 q i1
      omega
    · rw [q] at j2
      omega
    · by_cases e : j = i + 1
      · have : sp_pc J n (g 4) (i + 1) = J 27 (i + 1) := if_pos (by omega)
        rw [e] at j2
        omega
      · have h1 := hl.2.2.1 (i + 1) j (by omega) (by omega) j1
        have : sp_pc J n (g 4) (i + 1) = J 27 (i + 1) := if_pos (by omega)
        omega
theorem sp_pc_0 {g : Int → Int} {f : Int} {J : Nat → Int → Int} {n : Int} (hl : sp_gl g f J n (g 4)) : ∀ x, 0 ≤ x → x < sp_pc J n (g 4) 0 → ¬ sp_can g f x := fun x a b hc => by
  have pc := sp_pc_in hl (i := 0) (Int.le_refl _)
  obtain ⟨j, j0, j1, j2⟩ := hl.2.2.2 x a (by omega) hc
  have e : sp_pc J n (g 4) 0 = J 27 0 := if_pos (by omega)
  by_cases z : j = 0
  · rw [z] at j2
    omega
  · have := hl.2.2.1 0 j (by omega) (by omega) j1
    omega
theorem sp_sum_gap {f : Int → Int} {a : Int} (a0 : 0 ≤ a) : ∀ {k : Nat}, (∀ x, a ≤ x → x < a + k → f x = 0) → sp_sum f (a + k).toNat = sp_sum f a.toNat
  | 0, _ => by rw [show a + ((0 : Nat) : Int) = a by omega]
  | k + 1, h => by
    rw [show (a + ((k + 1 : Nat) : Int)) = a + (k : Int) + 1 by omega, sp_sum_step (by omega), sp_sum_gap a0 (k := k) (fun x p q => h x p (by omega)), h _ (by omega) (by omega)]
    omega
theorem t_X0_takeBestLoad {f : Int} (hR : RC J L g) (hI : Inv g B) (hD : 14 ≤ D) (hF : ∀ e, sp_fLoad g f e → Qr (some (.inl e)) (J, L, W)) (hS : sp_oLoad g f → ∀ J', sp_fr 2 54 J J' → RC J' L (sp_gLoad g f) → Qr (some (.inl (sp_nLoad g f))) (J', L, W)) : NW sc d_X0_takeBestLoad D (0, [some (.inr (.inl (some 1))), some (.inl f), none, none], [], (J, L, W), c, sl) Qr Qx := by
  have k3 := hI.fe
  have k4 := hI.mo
  have kc := hI.cr
  have sS := sp_sS_rng g f
  unfold sp_fLoad sp_isF at hF
  refine b_X0_takeBestLoad_0 hD ?_
  rw [hR.fe]
  refine ⟨fun q => hF _ (by omega), fun q1 => ⟨fun q => hF _ (by omega), fun q2 => ?_⟩⟩
  have fr := hR.fer f q1 q2
  have fi := hI.fer f q1 q2
  refine ⟨by omega, fun z => ?_, fun z => hF _ (by omega)⟩
  refine t_X8_aground hR hI ⟨q1, q2⟩ (by decide) (fun y => b_X0_takeBestLoad_32 hD ⟨fun w => absurd w (by decide), fun _ => hF _ (by have : sp_sS g f = 1 := sp_bT y; omega)⟩) (fun y => b_X0_takeBestLoad_32 hD ⟨fun _ => ?_, fun w => absurd rfl w⟩)
  have y0 : sp_sS g f = 0 := sp_bF y
  have o : sp_oLoad g f := by
    unfold sp_oLoad sp_isF
    omega
  refine t_X6_gather hR hI ⟨q1, q2⟩ (by unfold sp_sea; omega) (by decide) (fun J1 n hx1 hn hroom hl => b_X0_takeBestLoad_50 hD ?_)
  refine t_X6_sumByDeciding hI ⟨q1, q2⟩ hn hroom hl (by decide) (fun J2 hx2 hy2 hb hS2 => b_X0_takeBestLoad_57 ?_)
  have n2 : J2 26 0 = n := by rw [hy2 0 (by decide) (by decide)]; exact hn
  have p27 : ∀ i, J2 27 i = J1 27 i := fun i => by rw [hx2 27 (by decide)]
  have keep : ∀ x, ¬ sp_glF x → J2 x = J x := fun x w => by
    rw [hx2 x (fun z => w (Or.inl z))]
    exact hx1 x w
  have nn := hl.1
  have lp : ∀ (r : Nat) (i a : Int) (J3 : Nat → Int → Int), 0 ≤ i → i ≤ n → (n - i).toNat = r → a = sp_sum (fun p => sp_b ((sp_best g f).2 p)) (sp_pc J1 n (g 4) i).toNat → (∀ x, ¬ (x = 24 ∨ x = 25) → J3 x = J2 x) → (∀ p, 0 ≤ p → p < g 4 → ((sp_best g f).2 p ∧ p < sp_pc J1 n (g 4) i → J3 24 p = f ∧ J3 25 p = -1) ∧ (¬ ((sp_best g f).2 p ∧ p < sp_pc J1 n (g 4) i) → J3 24 p = J 24 p ∧ J3 25 p = J 25 p)) → NW sc d_X0_takeBestLoad D (62, [some (.inr (.inl (some 1))), some (.inl f), some (.inl a), some (.inl i)], [], (J3, L, W), c, sl) Qr Qx := by
    intro r9
    induction r9 using Nat.strongRecOn with
    | ind r9 ih =>
      intro i a J3 i0 i1 hr ha hx hp
      have pc := sp_pc_in hl (i := i) i0
      have pc0 := pc.2 k4.1
      have ab := sp_sum_bd (f := fun p => sp_b ((sp_best g f).2 p)) (b := 1) (n := (sp_pc J1 n (g 4) i).toNat) (fun q _ _ => sp_b_rng _)
      refine b_X0_takeBestLoad_62 hD ?_
      rw [hx 26 (by decide), hx 27 (by decide), n2, p27]
      refine ⟨fun q => ?_, fun q => ?_⟩
      · have ei : i = n := by omega
        have epc : sp_pc J1 n (g 4) i = g 4 := if_neg (by omega)
        rw [epc] at ha hp
        have fr3 : sp_fr 2 54 J J3 := fun x w => by rw [hx x (by omega), keep x (by unfold sp_glF; omega)]
        have fx : ∀ x, x < 24 → J3 x = J x := fun x w => by rw [hx x (by omega), keep x (by unfold sp_glF; omega)]
        have ee : ∀ s, (s < 121 ∨ 131 ≤ s) → sp_gLoad g f s = g s := fun s a => sp_gLoad_out k4.2 a
        rw [ha]
        refine hS o J3 fr3 ⟨hR.s.to (fx 2 (by omega)) rfl ⟨ee 0 (by omega), ee 6 (by omega), ee 7 (by omega)⟩, hR.w.to (fun x a b => fx x (by omega)) ⟨ee 1 (by omega), ee 2 (by omega)⟩ (fun s a b => ee s (by omega)) hI.cr.2 hI.ch.2, hR.f.to ⟨by rw [fx 9 (by omega)], fun x a b => fx x (by omega)⟩ (ee 3 (by omega)) (fun s a b => ee s (by omega)) hI.fe.2, hR.p.to ⟨by rw [fx 9 (by omega)]; exact ⟨rfl, rfl⟩, fun x a b => fx x (by omega)⟩ ⟨ee 8 (by omega), ee 9 (by omega)⟩ (fun s a b => ee s (by omega)), hR.m.where_ (fun x a b => fx x (by omega)) ⟨ee 4 (by omega), ee 5 (by omega)⟩ (fun s a b => ee s (by omega)) hI.mo.2 (fun p x y => ?_)⟩
        have mp := hR.moo p x y
        rcases Classical.em ((sp_best g f).2 p) with z | z
        · have := (hp p x y).1 ⟨z, y⟩
          rw [sp_gLoadT (sp_isB_at.mpr z), this.1, this.2]
          omega
        · have := (hp p x y).2 (fun w => z w.1)
          rw [sp_gLoadF (fun y => z (sp_isB_at.mp y)), this.1, this.2]
          omega
      · have gp := sp_pc_gap hl i0 q
        have hi := hl.2.1 i i0 q
        have pn := sp_pc_in hl (i := i + 1) (by omega)
        have step : sp_sum (fun p => sp_b ((sp_best g f).2 p)) (sp_pc J1 n (g 4) (i + 1)).toNat = sp_sum (fun p => sp_b ((sp_best g f).2 p)) (sp_pc J1 n (g 4) i).toNat + sp_b ((sp_best g f).2 (J1 27 i)) := by
          have h1 := sp_sum_gap (f := fun p => sp_b ((sp_best g f).2 p)) (a := J1 27 i + 1) (by omega) (k := (sp_pc J1 n (g 4) (i + 1) - (J1 27 i + 1)).toNat) (fun x a b => sp_bF (fun w => gp.2.2 x a (by omega) (sp_best_in w).2.2))
          rw [show J1 27 i + 1 + (((sp_pc J1 n (g 4) (i + 1) - (J1 27 i + 1)).toNat : Nat) : Int) = sp_pc J1 n (g 4) (i + 1) by omega] at h1
          rw [h1, sp_sum_step hi.1, gp.1]
        have far : ∀ p, 0 ≤ p → p < g 4 → ¬ p = J1 27 i → ((sp_best g f).2 p ∧ p < sp_pc J1 n (g 4) (i + 1) ↔ (sp_best g f).2 p ∧ p < sp_pc J1 n (g 4) i) := fun p p0 p1 pe => by
          constructor
          · rintro ⟨w1, w2⟩
            refine ⟨w1, ?_⟩
            by_cases u : J1 27 i + 1 ≤ p
            · exact absurd (sp_best_in w1).2.2 (gp.2.2 p u w2)
            · omega
          · rintro ⟨w1, w2⟩
            exact ⟨w1, by omega⟩
        rw [sp_S_b ⟨hb.1, by omega⟩ ⟨i0, by omega⟩]
        refine ⟨fun z => ⟨by omega, ?_⟩, fun z => ?_⟩
        · have ns : ¬ (sp_best g f).2 (J1 27 i) := fun w => z (sp_bT ((hS2 i i0 q).mpr w))
          refine ih _ (by omega) (i + 1) a J3 (by omega) (by omega) rfl (by rw [step, sp_bF ns]; omega) hx (fun p p0 p1 => ?_)
          have hp' := hp p p0 p1
          by_cases e : p = J1 27 i
          · refine ⟨fun w => absurd (e ▸ w.1) ns, fun _ => hp'.2 (fun w => ns (e ▸ w.1))⟩
          · exact ⟨fun w => hp'.1 ((far p p0 p1 e).mp w), fun w => hp'.2 (fun y => w ((far p p0 p1 e).mpr y))⟩
        · have s : (sp_best g f).2 (J1 27 i) := (hS2 i i0 q).mp (Classical.byContradiction (fun y => by rw [sp_bF y] at z; exact absurd z (by decide)))
          refine ⟨⟨by omega, by omega⟩, ⟨by omega, by omega⟩, by omega, by omega, ?_⟩
          refine ih _ (by omega) (i + 1) (a + 1) _ (by omega) (by omega) rfl (by rw [step, sp_bT s]; omega) (fun x w => ?_) (fun p p0 p1 => ?_)
          · have w1 : ¬ x = 24 := by omega
            have w2 : ¬ x = 25 := by omega
            rw [nw_uP w2, nw_uP w1]
            exact hx x w
          have hp' := hp p p0 p1
          by_cases e : p = J1 27 i
          · refine ⟨fun _ => ?_, fun w => absurd ⟨e ▸ s, by omega⟩ w⟩
            subst e
            simp [nw_u]
          · have v24 : nw_u (nw_u J3 24 (J1 27 i) f) 25 (J1 27 i) (-1) 24 p = J3 24 p := by rw [nw_uP (by decide), nw_uI e]
            have v25 : nw_u (nw_u J3 24 (J1 27 i) f) 25 (J1 27 i) (-1) 25 p = J3 25 p := by rw [nw_uI e, nw_uP (by decide)]
            rw [v24, v25]
            exact ⟨fun w => hp'.1 ((far p p0 p1 e).mp w), fun w => hp'.2 (fun y => w ((far p p0 p1 e).mpr y))⟩
  have z0 : 0 ≤ sp_pc J1 n (g 4) 0 := (sp_pc_in hl (i := 0) (Int.le_refl _)).2 k4.1
  refine lp _ 0 0 J2 (Int.le_refl _) (by omega) rfl ?_ (fun _ _ => rfl) (fun p p0 p1 => ⟨fun w => absurd (sp_best_in w.1).2.2 (sp_pc_0 hl p p0 w.2), fun _ => by rw [keep 24 (by unfold sp_glF; omega), keep 25 (by unfold sp_glF; omega)]; exact ⟨rfl, rfl⟩⟩)
  have h1 := sp_sum_gap (f := fun p => sp_b ((sp_best g f).2 p)) (a := 0) (Int.le_refl _) (k := (sp_pc J1 n (g 4) 0).toNat) (fun x a b => sp_bF (fun w => sp_pc_0 hl x a (by omega) (sp_best_in w).2.2))
  rw [show (0 : Int) + (((sp_pc J1 n (g 4) 0).toNat : Nat) : Int) = sp_pc J1 n (g 4) 0 by omega] at h1
  rw [h1]
  rfl
end

