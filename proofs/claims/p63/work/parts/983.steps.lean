/-! the known example: from state to state -/
theorem z_ix : List.range 161 = [0, 1, 2, 3, 4, 5, 6, 7, 8, 9, 10, 11, 12, 13, 14, 15, 16, 17, 18, 19, 20, 21, 22, 23, 24, 25, 26, 27, 28, 29, 30, 31, 32, 33, 34, 35, 36, 37, 38, 39, 40, 41, 42, 43, 44, 45, 46, 47, 48, 49, 50, 51, 52, 53, 54, 55, 56, 57, 58, 59, 60, 61, 62, 63, 64, 65, 66, 67, 68, 69, 70, 71, 72, 73, 74, 75, 76, 77, 78, 79, 80, 81, 82, 83, 84, 85, 86, 87, 88, 89, 90, 91, 92, 93, 94, 95, 96, 97, 98, 99, 100, 101, 102, 103, 104, 105, 106, 107, 108, 109, 110, 111, 112, 113, 114, 115, 116, 117, 118, 119, 120, 121, 122, 123, 124, 125, 126, 127, 128, 129, 130, 131, 132, 133, 134, 135, 136, 137, 138, 139, 140, 141, 142, 143, 144, 145, 146, 147, 148, 149, 150, 151, 152, 153, 154, 155, 156, 157, 158, 159, 160] := by decide +kernel
section
variable {l : List Int} {g : Int → Int}
theorem zs {x v : Int} (i : Nat) (hx : x = (i : Int)) (hi : i < 161) (hl : l.length = 161) : sp_set (zt l) x v = zt (l.set i v) := by
  funext s
  show (if s = x then v else zt l s) = zt (l.set i v) s
  unfold zt
  by_cases h : s = x
  · rw [if_pos h, if_pos (by omega), List.getD_eq_getElem?_getD, show s.toNat = i by omega, List.getElem?_set_self (by omega)]
    rfl
  · rw [if_neg h]
    by_cases k : 0 ≤ s ∧ s < 161
    · rw [if_pos k, if_pos k, List.getD_eq_getElem?_getD, List.getD_eq_getElem?_getD, List.getElem?_set_ne (by omega)]
    · rw [if_neg k, if_neg k]
theorem zt_at {x v : Int} (i : Nat) (hx : x = (i : Int)) (hi : i < 161) (h : l.getD i 0 = v) : zt l x = v := by
  unfold zt
  rw [if_pos (by omega), show x.toNat = i by omega, h]
theorem zs_len {i : Nat} {v : Int} (h : l.length = 161) : (l.set i v).length = 161 := by
  rw [List.length_set]
  exact h
theorem zs_ferry {k d w : Int} (n : Nat) (hl : l.length = 161) (h : zt l 3 = (n : Int)) (hn : n < 3) : sp_gFerry (zt l) k d w = zt ((((l.set (56 + n) k).set (65 + n) d).set (68 + n) w).set 3 ((n : Int) + 1)) := by
  unfold sp_gFerry
  rw [h, zs (x := 56 + (n : Int)) (56 + n) (by omega) (by omega) hl, zs (x := 65 + (n : Int)) (65 + n) (by omega) (by omega) (zs_len hl), zs (x := 68 + (n : Int)) (68 + n) (by omega) (by omega) (zs_len (zs_len hl)), zs (x := 3) 3 rfl (by omega) (zs_len (zs_len (zs_len hl)))]
theorem zs_moon {k d w p : Int} (n m : Nat) (hl : l.length = 161) (h : zt l 4 = (n : Int)) (h5 : zt l 5 = (m : Int)) (hn : n < 10) : sp_gMoon (zt l) k d w p = zt ((((((((l.set (71 + n) m).set (81 + n) k).set (91 + n) d).set (101 + n) w).set (111 + n) p).set (121 + n) k).set 4 ((n : Int) + 1)).set 5 ((m : Int) + 1)) := by
  unfold sp_gMoon
  have h1 := zs_len (i := 71 + n) (v := (m : Int)) hl
  have h2 := zs_len (i := 81 + n) (v := k) h1
  have h3 := zs_len (i := 91 + n) (v := d) h2
  have h4 := zs_len (i := 101 + n) (v := w) h3
  have h6 := zs_len (i := 111 + n) (v := p) h4
  have h7 := zs_len (i := 121 + n) (v := k) h6
  have h8 := zs_len (i := 4) (v := (n : Int) + 1) h7
  rw [h, h5, zs (x := 71 + (n : Int)) (71 + n) (by omega) (by omega) hl, zs (x := 81 + (n : Int)) (81 + n) (by omega) (by omega) h1, zs (x := 91 + (n : Int)) (91 + n) (by omega) (by omega) h2, zs (x := 101 + (n : Int)) (101 + n) (by omega) (by omega) h3, zs (x := 111 + (n : Int)) (111 + n) (by omega) (by omega) h4, zs (x := 121 + (n : Int)) (121 + n) (by omega) (by omega) h6, zs (x := 4) 4 rfl (by omega) h7, zs (x := 5) 5 rfl (by omega) h8]
theorem zs_sail {k x y z : Int} (c : Nat) (hl : l.length = 161) (h56 : zt l 56 = x) (h0 : zt l 0 = y) (hc : zt l (36 + (c : Int)) = z) : sp_gSail (zt l) 0 k c = zt (((l.set 59 x).set 56 k).set 62 (y + z)) := by
  unfold sp_gSail
  rw [show (56 : Int) + 0 = 56 from rfl, h56, h0, hc, zs (x := 59 + 0) 59 rfl (by omega) hl, zs (x := 56) 56 rfl (by omega) (zs_len hl), zs (x := 62 + 0) 62 rfl (by omega) (zs_len (zs_len hl))]
/-- hours -/
theorem zh_rest {h : Int → Int} (hf : ∀ f, 0 ≤ f → f < h 3 → h (62 + f) ≤ 0 ∨ ¬ h (62 + f) = h 0) : ∀ n : Nat, (n : Int) ≤ h 3 → sp_hr h n = (h, 0)
  | 0, _ => rfl
  | n + 1, hn => by
    unfold sp_hr
    rw [zh_rest hf n (by omega)]
    have := hf n (by omega) (by omega)
    rw [if_neg (by show ¬ (0 < h (62 + (n : Int)) ∧ h (62 + (n : Int)) = h 0); omega)]
theorem zh_quiet (h3 : 0 ≤ g 3) (hf : ∀ f, 0 ≤ f → f < g 3 → g (62 + f) ≤ 0 ∨ g 0 + 1 < g (62 + f)) (hd : ¬ (g 0 + 1) % 24 = 0) : sp_hour g = (sp_set g 0 (g 0 + 1), 0) := by
  unfold sp_hour sp_h0
  rw [if_neg hd]
  have e3 : sp_set g 0 (g 0 + 1) 3 = g 3 := sp_set_ne (by decide)
  refine zh_rest (fun f f0 f1 => ?_) _ (by omega)
  rw [e3] at f1
  rw [sp_set_ne (by omega), sp_set_eq]
  have := hf f f0 f1
  omega
theorem zq : ∀ {m : Nat}, 0 ≤ g 3 → (∀ f, 0 ≤ f → f < g 3 → g (62 + f) ≤ 0 ∨ g 0 + (m : Int) < g (62 + f)) → (∀ i : Int, 1 ≤ i → i ≤ m → ¬ (g 0 + i) % 24 = 0) → sp_pass g m = (sp_set g 0 (g 0 + m), 0)
  | 0, _, _, _ => by
    refine Prod.ext ?_ rfl
    funext s
    show g s = (if s = 0 then g 0 + ((0 : Nat) : Int) else g s)
    split
    · rename_i h
      rw [h]
      omega
    · rfl
  | m + 1, h3, hf, hd => by
    have i := zq (m := m) h3 (fun f f0 f1 => by have := hf f f0 f1; omega) (fun i a b => hd i a (by omega))
    unfold sp_pass
    rw [i]
    have e3 : sp_set g 0 (g 0 + (m : Int)) 3 = g 3 := sp_set_ne (by decide)
    have q := zh_quiet (g := sp_set g 0 (g 0 + (m : Int))) (by omega) (fun f f0 f1 => by
      rw [e3] at f1
      rw [sp_set_ne (by omega), sp_set_eq]
      have := hf f f0 f1
      omega) (by
      rw [sp_set_eq]
      have := hd ((m : Int) + 1) (by omega) (by omega)
      rw [show g 0 + (m : Int) + 1 = g 0 + ((m : Int) + 1) by omega]
      exact this)
    rw [q, sp_set_eq]
    refine Prod.ext ?_ rfl
    funext s
    show (if s = 0 then g 0 + (m : Int) + 1 else (if s = 0 then g 0 + (m : Int) else g s)) = (if s = 0 then g 0 + ((m + 1 : Nat) : Int) else g s)
    split
    · omega
    · rfl
/-- one ferry, and it comes in -/
theorem zh_in (h3 : g 3 = 1) (h0 : 0 < g 62) (hf : g 62 = g 0 + 1) (hd : ¬ (g 0 + 1) % 24 = 0) : sp_hour g = (sp_stp (sp_set g 0 (g 0 + 1)) 0, 1) := by
  unfold sp_hour sp_h0
  rw [if_neg hd, h3]
  show (if 0 < sp_set g 0 (g 0 + 1) (62 + ((0 : Nat) : Int)) ∧ sp_set g 0 (g 0 + 1) (62 + ((0 : Nat) : Int)) = sp_set g 0 (g 0 + 1) 0 then (sp_stp (sp_set g 0 (g 0 + 1)) ((0 : Nat) : Int), (0 : Int) + 1) else _) = _
  rw [if_pos (by
    rw [sp_set_ne (by omega), sp_set_eq]
    exact ⟨h0, hf⟩)]
  rfl
/-- a new day, all at rest, two moons -/
theorem zh_day (h3 : 0 ≤ g 3 ∧ g 3 ≤ 3) (h4 : g 4 = 2) (hf : ∀ f, 0 ≤ f → f < g 3 → g (62 + f) ≤ 0) (hd : (g 0 + 1) % 24 = 0) : sp_hour g = (sp_set (sp_set (sp_set g 0 (g 0 + 1)) 111 ((g 111 + 1) % 8)) 112 ((g 112 + 1) % 8), 0) := by
  have e : sp_h0 g = sp_set (sp_set (sp_set g 0 (g 0 + 1)) 111 ((g 111 + 1) % 8)) 112 ((g 112 + 1) % 8) := by
    unfold sp_h0
    rw [if_pos hd]
    funext s
    show (if 111 ≤ s ∧ s < 111 + (if (4 : Int) = 0 then g 0 + 1 else g 4) then ((if s = 0 then g 0 + 1 else g s) + 1) % 8 else (if s = 0 then g 0 + 1 else g s)) = (if s = 112 then (g 112 + 1) % 8 else (if s = 111 then (g 111 + 1) % 8 else (if s = 0 then g 0 + 1 else g s)))
    rw [if_neg (by decide : ¬ (4 : Int) = 0), h4]
    by_cases a : s = 112
    · rw [if_pos a, if_pos (by omega), if_neg (by omega), a]
    · rw [if_neg a]
      by_cases b : s = 111
      · rw [if_pos b, if_pos (by omega), if_neg (by omega), b]
      · rw [if_neg b, if_neg (by omega)]
  unfold sp_hour
  rw [e]
  have e3 : sp_set (sp_set (sp_set g 0 (g 0 + 1)) 111 ((g 111 + 1) % 8)) 112 ((g 112 + 1) % 8) 3 = g 3 := by
    rw [sp_set_ne (by decide), sp_set_ne (by decide), sp_set_ne (by decide)]
  refine zh_rest (fun f f0 f1 => ?_) _ (by omega)
  rw [e3] at f1
  left
  rw [sp_set_ne (by omega), sp_set_ne (by omega), sp_set_ne (by omega)]
  exact hf f f0 f1
/-- the list behind a passage noted for ferry 0 -/
def z_not (l : List Int) : List Int := (List.range 161).map (fun s => if s = 8 then l.getD 8 0 + 1 else if 131 ≤ s then (if s = 131 then 0 else if s = 141 then l.getD 56 0 else if s = 151 then l.getD 0 0 else l.getD (s - 1) 0) else l.getD s 0)
theorem z_not_eq : sp_not (zt l) 0 = zt (z_not l) := by
  funext s
  show (if s = 8 then zt l 8 + 1 else if 131 ≤ s ∧ s < 161 then (if s = 131 then 0 else if s = 141 then zt l (56 + 0) else if s = 151 then zt l 0 else zt l (s - 1)) else zt l s) = zt (z_not l) s
  by_cases k : 0 ≤ s ∧ s < 161
  · have e : zt (z_not l) s = (if s.toNat = 8 then l.getD 8 0 + 1 else if 131 ≤ s.toNat then (if s.toNat = 131 then 0 else if s.toNat = 141 then l.getD 56 0 else if s.toNat = 151 then l.getD 0 0 else l.getD (s.toNat - 1) 0) else l.getD s.toNat 0) := by
      unfold zt z_not
      rw [if_pos k, List.getD_eq_getElem?_getD, List.getElem?_map, List.getElem?_range (by omega)]
      rfl
    rw [e]
    by_cases a : s = 8
    · rw [if_pos a, if_pos (show s.toNat = 8 by omega), zt_at (x := 8) 8 rfl (by decide) rfl]
    · rw [if_neg a, if_neg (show ¬ s.toNat = 8 by omega)]
      by_cases b : 131 ≤ s
      · rw [if_pos (show 131 ≤ s ∧ s < 161 from ⟨b, k.2⟩), if_pos (show 131 ≤ s.toNat by omega)]
        by_cases c : s = 131
        · rw [if_pos c, if_pos (show s.toNat = 131 by omega)]
        · rw [if_neg c, if_neg (show ¬ s.toNat = 131 by omega)]
          by_cases d : s = 141
          · rw [if_pos d, if_pos (show s.toNat = 141 by omega), zt_at (x := 56 + 0) 56 rfl (by decide) rfl]
          · rw [if_neg d, if_neg (show ¬ s.toNat = 141 by omega)]
            by_cases f : s = 151
            · rw [if_pos f, if_pos (show s.toNat = 151 by omega), zt_at (x := 0) 0 rfl (by decide) rfl]
            · rw [if_neg f, if_neg (show ¬ s.toNat = 151 by omega), zt_at (x := s - 1) (s.toNat - 1) (by omega) (by omega) rfl]
      · rw [if_neg (show ¬ (131 ≤ s ∧ s < 161) by omega), if_neg (show ¬ 131 ≤ s.toNat by omega), zt_at (x := s) s.toNat (by omega) (by omega) rfl]
  · rw [if_neg (show ¬ s = 8 by omega), if_neg (show ¬ (131 ≤ s ∧ s < 161) by omega), zt_Zr s k, zt_Zr s k]
/-- the list without the first moon -/
def z_drp (l : List Int) : List Int := (List.range 161).map (fun s => if 71 ≤ s ∧ s < 131 ∧ (s - 71) % 10 < 9 then l.getD (s + 1) 0 else l.getD s 0)
theorem z_drp_eq : sp_drp (zt l) 71 6 0 = zt (z_drp l) := by
  funext s
  show (if 71 ≤ s ∧ s < 71 + 10 * 6 ∧ 0 ≤ (s - 71) % 10 ∧ (s - 71) % 10 < 9 then zt l (s + 1) else zt l s) = zt (z_drp l) s
  by_cases k : 0 ≤ s ∧ s < 161
  · have e : zt (z_drp l) s = (if 71 ≤ s.toNat ∧ s.toNat < 131 ∧ (s.toNat - 71) % 10 < 9 then l.getD (s.toNat + 1) 0 else l.getD s.toNat 0) := by
      unfold zt z_drp
      rw [if_pos k, List.getD_eq_getElem?_getD, List.getElem?_map, List.getElem?_range (by omega)]
      rfl
    rw [e]
    by_cases a : 71 ≤ s ∧ s < 71 + 10 * 6 ∧ 0 ≤ (s - 71) % 10 ∧ (s - 71) % 10 < 9
    · rw [if_pos a, if_pos (show 71 ≤ s.toNat ∧ s.toNat < 131 ∧ (s.toNat - 71) % 10 < 9 by omega), zt_at (x := s + 1) (s.toNat + 1) (by omega) (by omega) rfl]
    · rw [if_neg a, if_neg (show ¬ (71 ≤ s.toNat ∧ s.toNat < 131 ∧ (s.toNat - 71) % 10 < 9) by omega), zt_at (x := s) s.toNat (by omega) (by omega) rfl]
  · rw [if_neg (show ¬ (71 ≤ s ∧ s < 71 + 10 * 6 ∧ 0 ≤ (s - 71) % 10 ∧ (s - 71) % 10 < 9) by omega), zt_Zr s k, zt_Zr s k]
theorem z_in (hl : l.length = 161) (hs : ¬ sp_stk (zt (z_not (l.set 62 0))) 0) : sp_stp (zt l) 0 = zt ((z_not (l.set 62 0)).set 9 (zt l 9 + 0)) := by
  unfold sp_stp sp_arr
  rw [zs (x := 62 + 0) 62 rfl (by decide) hl, z_not_eq, sp_bF hs, zs (x := 9) 9 rfl (by decide) (by unfold z_not; rw [List.length_map, List.length_range])]
end
section
variable {k j : Nat}
theorem z0_len : (z0l k j).length = 161 := by
  unfold z0l
  simp only [List.length_cons, List.length_nil, Nat.reduceAdd]
theorem z1_len : (z1l k j).length = 161 := by
  unfold z1l
  simp only [List.length_cons, List.length_nil, Nat.reduceAdd]
theorem z2_len : (z2l k j).length = 161 := by
  unfold z2l
  simp only [List.length_cons, List.length_nil, Nat.reduceAdd]
theorem z3_len : (z3l k j).length = 161 := by
  unfold z3l
  simp only [List.length_cons, List.length_nil, Nat.reduceAdd]
theorem z4_len : (z4l k j).length = 161 := by
  unfold z4l
  simp only [List.length_cons, List.length_nil, Nat.reduceAdd]
theorem z5_len : (z5l k j).length = 161 := by
  unfold z5l
  simp only [List.length_cons, List.length_nil, Nat.reduceAdd]
theorem z6_len : (z6l k j).length = 161 := by
  unfold z6l
  simp only [List.length_cons, List.length_nil, Nat.reduceAdd]
theorem z7_len : (z7l k j).length = 161 := by
  unfold z7l
  simp only [List.length_cons, List.length_nil, Nat.reduceAdd]
theorem z8_len : (z8l k j).length = 161 := by
  unfold z8l
  simp only [List.length_cons, List.length_nil, Nat.reduceAdd]
theorem z9_len : (z9l k j).length = 161 := by
  unfold z9l
  simp only [List.length_cons, List.length_nil, Nat.reduceAdd]
theorem z10_len : (z10l k j).length = 161 := by
  unfold z10l
  simp only [List.length_cons, List.length_nil, Nat.reduceAdd]
theorem z11_len : (z11l k j).length = 161 := by
  unfold z11l
  simp only [List.length_cons, List.length_nil, Nat.reduceAdd]
theorem z12_len : (z12l k j).length = 161 := by
  unfold z12l
  simp only [List.length_cons, List.length_nil, Nat.reduceAdd]
theorem z13_len : (z13l k j).length = 161 := by
  unfold z13l
  simp only [List.length_cons, List.length_nil, Nat.reduceAdd]
theorem z14_len : (z14l k j).length = 161 := by
  unfold z14l
  simp only [List.length_cons, List.length_nil, Nat.reduceAdd]
theorem z_e3 : sp_pass (zt (z2l k j)) 1 = (zt (z3l k j), 0) := by
  have e0 : zt (z2l k j) 0 = 0 := zt_at (l := z2l k j) (v := 0) 0 rfl (by decide) rfl
  have e3 : zt (z2l k j) 3 = 1 := zt_at (l := z2l k j) (v := 1) 3 rfl (by decide) rfl
  have e62 : zt (z2l k j) 62 = 0 := zt_at (l := z2l k j) (v := 0) 62 rfl (by decide) rfl
  rw [zq (m := 1) (by omega) (fun f f0 f1 => by rw [show f = 0 by omega]; exact Or.inl (Int.le_of_eq e62)) (fun i a b => by omega), e0, zs (x := 0) 0 rfl (by decide) z2_len]
  rfl
theorem z_e5 : sp_gSail (zt (z4l k j)) 0 1 0 = zt (z5l k j) := by
  have e := zs_sail (k := 1) (x := 0) (y := 1) (z := (k : Int) + 1) 0 (z4_len (k := k) (j := j)) (zt_at (l := z4l k j) (v := 0) 56 rfl (by decide) rfl) (zt_at (l := z4l k j) (v := 1) 0 rfl (by decide) rfl) (zt_at (l := z4l k j) (v := (k : Int) + 1) 36 rfl (by decide) rfl)
  rw [show 1 + ((k : Int) + 1) = (k : Int) + 2 by omega] at e
  exact e
theorem z_e7 : sp_gSail (zt (z6l k j)) 0 0 0 = zt (z7l k j) := by
  have e := zs_sail (k := 0) (x := 1) (y := (k : Int) + 2) (z := (k : Int) + 1) 0 (z6_len (k := k) (j := j)) (zt_at (l := z6l k j) (v := 1) 56 rfl (by decide) rfl) (zt_at (l := z6l k j) (v := (k : Int) + 2) 0 rfl (by decide) rfl) (zt_at (l := z6l k j) (v := (k : Int) + 1) 36 rfl (by decide) rfl)
  rw [show (k : Int) + 2 + ((k : Int) + 1) = 2 * (k : Int) + 3 by omega] at e
  exact e
theorem z_e9 : sp_gSail (zt (z8l k j)) 0 2 1 = zt (z9l k j) := by
  have e := zs_sail (k := 2) (x := 1) (y := (k : Int) + 2) (z := 3) 1 (z8_len (k := k) (j := j)) (zt_at (l := z8l k j) (v := 1) 56 rfl (by decide) rfl) (zt_at (l := z8l k j) (v := (k : Int) + 2) 0 rfl (by decide) rfl) (zt_at (l := z8l k j) (v := 3) 37 rfl (by decide) rfl)
  rw [show (k : Int) + 2 + (3) = (k : Int) + 5 by omega] at e
  exact e
set_option maxRecDepth 100000 in
theorem z_e6 (hk : k < 4) : sp_pass (zt (z5l k j)) (k + 1) = (zt (z6l k j), 1) := by
  have e0 : zt (z5l k j) 0 = 1 := zt_at (l := z5l k j) (v := 1) 0 rfl (by decide) rfl
  have e3 : zt (z5l k j) 3 = 1 := zt_at (l := z5l k j) (v := 1) 3 rfl (by decide) rfl
  have e62 : zt (z5l k j) 62 = (k : Int) + 2 := zt_at (l := z5l k j) (v := (k : Int) + 2) 62 rfl (by decide) rfl
  have q := zq (g := zt (z5l k j)) (m := k) (by omega) (fun f f0 f1 => by rw [show f = 0 by omega]; right; rw [show (62 : Int) + 0 = 62 from rfl, e62, e0]; omega) (fun i a b => by omega)
  rw [e0, zs (x := 0) 0 rfl (by decide) z5_len] at q
  unfold sp_pass
  rw [q]
  have f0 : zt ((z5l k j).set 0 (1 + (k : Nat))) 0 = 1 + (k : Nat) := zt_at 0 rfl (by decide) rfl
  have f3 : zt ((z5l k j).set 0 (1 + (k : Nat))) 3 = 1 := zt_at 3 rfl (by decide) rfl
  have f62 : zt ((z5l k j).set 0 (1 + (k : Nat))) 62 = (k : Int) + 2 := zt_at 62 rfl (by decide) rfl
  rw [zh_in f3 (by omega) (by omega) (by omega), f0, zs (x := 0) 0 rfl (by decide) (zs_len z5_len), show 1 + ((k : Nat) : Int) + 1 = (k : Int) + 2 by omega, z_in (zs_len (zs_len z5_len)) (fun h => ?_)]
  · refine Prod.ext ?_ rfl
    show zt _ = zt _
    unfold z_not
    rw [z_ix]
    rfl
  · have h := h.2
    have g0 : zt (z_not ((((z5l k j).set 0 (1 + (k : Nat))).set 0 ((k : Int) + 2)).set 62 0)) 0 = (k : Int) + 2 := zt_at 0 rfl (by decide) rfl
    have g56 : zt (z_not ((((z5l k j).set 0 (1 + (k : Nat))).set 0 ((k : Int) + 2)).set 62 0)) (56 + 0) = 1 := zt_at 56 rfl (by decide) rfl
    have g65 : zt (z_not ((((z5l k j).set 0 (1 + (k : Nat))).set 0 ((k : Int) + 2)).set 62 0)) (65 + 0) = 5 := zt_at 65 rfl (by decide) rfl
    have g1 : zt (z_not ((((z5l k j).set 0 (1 + (k : Nat))).set 0 ((k : Int) + 2)).set 62 0)) (10 + 1) = 3 := zt_at 11 rfl (by decide) rfl
    unfold sp_low sp_tide at h
    rw [g56, g0, g65, g1] at h
    split at h <;> omega
set_option maxRecDepth 100000 in
theorem z_e10 (hk : k < 4) : sp_pass (zt (z9l k j)) (3) = (zt (z10l k j), 1) := by
  have e0 : zt (z9l k j) 0 = (k : Int) + 2 := zt_at (l := z9l k j) (v := (k : Int) + 2) 0 rfl (by decide) rfl
  have e3 : zt (z9l k j) 3 = 1 := zt_at (l := z9l k j) (v := 1) 3 rfl (by decide) rfl
  have e62 : zt (z9l k j) 62 = (k : Int) + 5 := zt_at (l := z9l k j) (v := (k : Int) + 5) 62 rfl (by decide) rfl
  have q := zq (g := zt (z9l k j)) (m := 2) (by omega) (fun f f0 f1 => by rw [show f = 0 by omega]; right; rw [show (62 : Int) + 0 = 62 from rfl, e62, e0]; omega) (fun i a b => by omega)
  rw [e0, zs (x := 0) 0 rfl (by decide) z9_len] at q
  unfold sp_pass
  rw [q]
  have f0 : zt ((z9l k j).set 0 ((k : Int) + 2 + (2 : Nat))) 0 = (k : Int) + 2 + (2 : Nat) := zt_at 0 rfl (by decide) rfl
  have f3 : zt ((z9l k j).set 0 ((k : Int) + 2 + (2 : Nat))) 3 = 1 := zt_at 3 rfl (by decide) rfl
  have f62 : zt ((z9l k j).set 0 ((k : Int) + 2 + (2 : Nat))) 62 = (k : Int) + 5 := zt_at 62 rfl (by decide) rfl
  rw [zh_in f3 (by omega) (by omega) (by omega), f0, zs (x := 0) 0 rfl (by decide) (zs_len z9_len), show (k : Int) + 2 + ((2 : Nat) : Int) + 1 = (k : Int) + 5 by omega, z_in (zs_len (zs_len z9_len)) (fun h => ?_)]
  · refine Prod.ext ?_ rfl
    show zt _ = zt _
    unfold z_not
    rw [z_ix]
    rfl
  · have h := h.2
    have g0 : zt (z_not ((((z9l k j).set 0 ((k : Int) + 2 + (2 : Nat))).set 0 ((k : Int) + 5)).set 62 0)) 0 = (k : Int) + 5 := zt_at 0 rfl (by decide) rfl
    have g56 : zt (z_not ((((z9l k j).set 0 ((k : Int) + 2 + (2 : Nat))).set 0 ((k : Int) + 5)).set 62 0)) (56 + 0) = 2 := zt_at 56 rfl (by decide) rfl
    have g65 : zt (z_not ((((z9l k j).set 0 ((k : Int) + 2 + (2 : Nat))).set 0 ((k : Int) + 5)).set 62 0)) (65 + 0) = 5 := zt_at 65 rfl (by decide) rfl
    have g1 : zt (z_not ((((z9l k j).set 0 ((k : Int) + 2 + (2 : Nat))).set 0 ((k : Int) + 5)).set 62 0)) (10 + 2) = 9 := zt_at 12 rfl (by decide) rfl
    unfold sp_low sp_tide at h
    rw [g56, g0, g65, g1] at h
    split at h <;> omega
end
