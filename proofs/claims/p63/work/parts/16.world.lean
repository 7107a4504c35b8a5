/-! the world behind the law's first four lines: which place holds what; running on to cut points -/
def mw_kdl : List (List (Nat × Nat)) := [[(15, 13), (4, 6), (12, 6), (13, 7), (20, 6), (20, 10), (20, 10), (20, 10), (20, 10), (8, 11), (20, 3), (20, 3), (20, 3), (20, 3), (20, 3), (20, 10)],
  [(20, 10), (20, 10), (11, 9), (20, 10), (20, 10), (20, 10), (20, 10), (20, 10), (20, 10), (20, 10), (10, 9), (20, 10), (7, 9), (14, 8), (20, 6), (26, 6)],
  [(20, 6), (20, 6), (20, 6), (20, 6), (20, 6), (20, 6), (20, 6), (20, 6), (6, 4), (20, 21), (20, 21), (20, 10), (20, 6), (20, 100), (20, 10), (20, 10)],
  [(20, 10), (20, 10), (20, 10), (20, 10), (20, 10), (20, 10), (20, 100), (12, 6), (13, 7), (20, 6), (20, 10), (20, 10), (20, 10), (20, 10), (8, 11), (20, 3)],
  [(20, 3), (20, 3), (20, 3), (20, 3), (20, 10), (20, 10), (20, 10), (11, 9), (20, 10), (20, 10), (20, 10), (20, 10), (20, 10), (20, 10), (20, 10), (12, 6)],
  [(13, 7), (20, 6), (20, 10), (20, 10), (20, 10), (20, 10), (8, 11), (20, 3), (20, 3), (20, 3), (20, 3), (20, 3), (20, 10), (20, 10), (20, 10), (11, 9)],
  [(20, 10), (20, 10), (20, 10), (20, 10), (20, 10), (20, 10), (20, 10), (9, 2), (25, 8), (12, 6), (13, 7), (20, 6), (20, 10), (20, 10), (20, 10), (20, 10)],
  [(8, 11), (20, 3), (20, 3), (20, 3), (20, 3), (20, 3), (20, 10), (20, 10), (20, 10), (11, 9), (20, 10), (20, 10), (20, 10), (20, 10), (20, 10), (20, 10)],
  [(20, 10), (12, 6), (13, 7), (20, 6), (20, 10), (20, 10), (20, 10), (20, 10), (8, 11), (20, 3), (20, 3), (20, 3), (20, 3), (20, 3), (20, 10), (20, 10)],
  [(20, 10), (11, 9), (20, 10), (20, 10), (20, 10), (20, 10), (20, 10), (20, 10), (20, 10), (12, 6), (13, 7), (20, 6), (20, 10), (20, 10), (20, 10), (20, 10)],
  [(8, 11), (20, 3), (20, 3), (20, 3), (20, 3), (20, 3), (20, 10), (20, 10), (20, 10), (11, 9), (20, 10), (20, 10), (20, 10), (20, 10), (20, 10), (20, 10)],
  [(20, 10), (12, 6), (13, 7), (20, 6), (20, 10), (20, 10), (20, 10), (20, 10), (8, 11), (20, 3), (20, 3), (20, 3), (20, 3), (20, 3), (20, 10), (20, 10)],
  [(20, 10), (11, 9), (20, 10), (20, 10), (20, 10), (20, 10), (20, 10), (20, 10), (20, 10), (12, 6), (13, 7), (20, 6), (20, 10), (20, 10), (20, 10), (20, 10)],
  [(8, 11), (20, 3), (20, 3), (20, 3), (20, 3), (20, 3), (20, 10), (20, 10), (20, 10), (11, 9), (20, 10), (20, 10), (20, 10), (20, 10), (20, 10), (20, 10)],
  [(20, 10), (12, 6), (13, 7), (20, 6), (20, 10), (20, 10), (20, 10), (20, 10), (8, 11), (20, 3), (20, 3), (20, 3), (20, 3), (20, 3), (20, 10), (20, 10)],
  [(20, 10), (11, 9), (20, 10), (20, 10), (20, 10), (20, 10), (20, 10), (20, 10), (20, 10), (12, 6), (13, 7), (20, 6), (20, 10), (20, 10), (20, 10), (20, 10)],
  [(8, 11), (20, 3), (20, 3), (20, 3), (20, 3), (20, 3), (20, 10), (20, 10), (20, 10), (11, 9), (20, 10), (20, 10), (20, 10), (20, 10), (20, 10), (20, 10)],
  [(20, 10), (12, 6), (13, 7), (20, 6), (20, 10), (20, 10), (20, 10), (20, 10), (8, 11), (20, 3), (20, 3), (20, 3), (20, 3), (20, 3), (20, 10), (20, 10)],
  [(20, 10), (11, 9), (20, 10), (20, 10), (20, 10), (20, 10), (20, 10), (20, 10), (20, 10), (5, 5), (20, 10), (21, 60), (20, 40), (1, 4), (24, 16)]]
def mw_rml : List (List (List (Option Nat))) := [[[some 1, some 2, some 26, some 28, some 29, some 55, some 79, some 103, some 297, some 301], [none, some 2, some 26, some 3, some 9, some 18], [some 3, some 9, some 18], [none, none, some 4, some 5, some 6, some 7, some 8], [], [], [], [], [], [none, some 10, some 11, some 12, some 13, some 14, none, none, some 15, some 16, some 17], [], [], [], [], [], []],
  [[], [], [none, none, some 19, some 20, some 21, some 22, some 23, some 24, some 25], [], [], [], [], [], [], [], [none, none, some 27, some 28, none, none, some 52, some 53, some 54], [], [some 29, some 46, none, none, some 47, some 48, some 49, some 50, some 51], [some 30, some 31, some 38, some 39, some 40, some 43, some 44, some 45], [], [some 32, some 33, some 34, some 35, some 36, some 37]],
  [[], [], [], [], [], [], [], [], [none, none, some 41, some 42], [], [], [], [], [], [], []],
  [[], [], [], [], [], [], [], [some 56, some 62, some 71], [none, none, some 57, some 58, some 59, some 60, some 61], [], [], [], [], [], [none, some 63, some 64, some 65, some 66, some 67, none, none, some 68, some 69, some 70], []],
  [[], [], [], [], [], [], [], [none, none, some 72, some 73, some 74, some 75, some 76, some 77, some 78], [], [], [], [], [], [], [], [some 80, some 86, some 95]],
  [[none, none, some 81, some 82, some 83, some 84, some 85], [], [], [], [], [], [none, some 87, some 88, some 89, some 90, some 91, none, none, some 92, some 93, some 94], [], [], [], [], [], [], [], [], [none, none, some 96, some 97, some 98, some 99, some 100, some 101, some 102]],
  [[], [], [], [], [], [], [], [none, some 104], [], [some 106, some 112, some 121], [none, none, some 107, some 108, some 109, some 110, some 111], [], [], [], [], []],
  [[none, some 113, some 114, some 115, some 116, some 117, none, none, some 118, some 119, some 120], [], [], [], [], [], [], [], [], [none, none, some 122, some 123, some 124, some 125, some 126, some 127, some 128], [], [], [], [], [], []],
  [[], [some 130, some 136, some 145], [none, none, some 131, some 132, some 133, some 134, some 135], [], [], [], [], [], [none, some 137, some 138, some 139, some 140, some 141, none, none, some 142, some 143, some 144], [], [], [], [], [], [], []],
  [[], [none, none, some 146, some 147, some 148, some 149, some 150, some 151, some 152], [], [], [], [], [], [], [], [some 154, some 160, some 169], [none, none, some 155, some 156, some 157, some 158, some 159], [], [], [], [], []],
  [[none, some 161, some 162, some 163, some 164, some 165, none, none, some 166, some 167, some 168], [], [], [], [], [], [], [], [], [none, none, some 170, some 171, some 172, some 173, some 174, some 175, some 176], [], [], [], [], [], []],
  [[], [some 178, some 184, some 193], [none, none, some 179, some 180, some 181, some 182, some 183], [], [], [], [], [], [none, some 185, some 186, some 187, some 188, some 189, none, none, some 190, some 191, some 192], [], [], [], [], [], [], []],
  [[], [none, none, some 194, some 195, some 196, some 197, some 198, some 199, some 200], [], [], [], [], [], [], [], [some 202, some 208, some 217], [none, none, some 203, some 204, some 205, some 206, some 207], [], [], [], [], []],
  [[none, some 209, some 210, some 211, some 212, some 213, none, none, some 214, some 215, some 216], [], [], [], [], [], [], [], [], [none, none, some 218, some 219, some 220, some 221, some 222, some 223, some 224], [], [], [], [], [], []],
  [[], [some 226, some 232, some 241], [none, none, some 227, some 228, some 229, some 230, some 231], [], [], [], [], [], [none, some 233, some 234, some 235, some 236, some 237, none, none, some 238, some 239, some 240], [], [], [], [], [], [], []],
  [[], [none, none, some 242, some 243, some 244, some 245, some 246, some 247, some 248], [], [], [], [], [], [], [], [some 250, some 256, some 265], [none, none, some 251, some 252, some 253, some 254, some 255], [], [], [], [], []],
  [[none, some 257, some 258, some 259, some 260, some 261, none, none, some 262, some 263, some 264], [], [], [], [], [], [], [], [], [none, none, some 266, some 267, some 268, some 269, some 270, some 271, some 272], [], [], [], [], [], []],
  [[], [some 274, some 280, some 289], [none, none, some 275, some 276, some 277, some 278, some 279], [], [], [], [], [], [none, some 281, some 282, some 283, some 284, some 285, none, none, some 286, some 287, some 288], [], [], [], [], [], [], []],
  [[], [none, none, some 290, some 291, some 292, some 293, some 294, some 295, some 296], [], [], [], [], [], [], [], [none, none, some 298, some 299, some 300], [], [], [], [], []]]
def mw_kd0 (a : Nat) : Option (Nat × Nat) := match mw_kdl[a / 16]? with
  | some l => l[a % 16]?
  | none => none
def mw_rt0 (a k : Nat) : Option Nat := match mw_rml[a / 16]? with
  | some l => (match l[a % 16]? with
    | some r => (match r[k]? with
      | some q => q
      | none => none)
    | none => none)
  | none => none
/-- kinds: the world's own, and those made later -/
def mw_kdx (ext : Nat → Option (Nat × Nat)) : Nat → Option (Nat × Nat) := fun a => if a < 303 then mw_kd0 a else ext a
/-- references: history's eight states change their order, the line's bytes are made anew -/
def mw_rm0 (hp : Nat → Nat) (sb : Nat) : Nat → Nat → Option Nat := fun a k => if a = 104 then (if k < 8 then some (hp k) else none) else if a = 301 then (if k = 0 then some sb else none) else mw_rt0 a k
def mw_W (im : Nat → Nat → Int32) (lm : Nat → Nat → Int64) (dm : Nat → Nat → UInt64) (hp : Nat → Nat) (sb : Nat) (ext : Nat → Option (Nat × Nat)) (n : Nat) : mw_Mem := (im, lm, dm, mw_rm0 hp sb, mw_kdx ext, n)
def mw_nr (rt : Option FieldType) (x : Int32) : Prop := ∃ ty : FieldType, rt = some ty ∧ narrow ty (.int x) = .int x
def mw_cq (im : Nat → Nat → Int32) (a b sp dp n : Nat) : Nat → Nat → Int32 := fun x => if x = b then va_cpy (im a) (im b) sp dp n else im x
def mw_in : List Nat → Nat → Bool
  | [], _ => false
  | a :: r, x => match Nat.beq a x with
    | true => true
    | false => mw_in r x
def mw_rn (sc : Nat × (Nat → Int32)) (cd : mw_CD) (stop : List Nat) : Nat → mw_Fr → (mw_Fr → Prop) → (Option Value → mw_Mem → Prop) → Prop
  | 0, f, K, _ => K f
  | n + 1, f, K, Qr => match mw_in stop f.1 with
    | true => K f
    | false => mw_app (mw_stp sc cd f) (fun g => mw_rn sc cd stop n g K Qr) Qr
def mw_le : List (Option Value) → List (Option Value) → Prop
  | [], [] => True
  | none :: r, _ :: s => True ∧ mw_le r s
  | some v :: r, some w :: s => v = w ∧ mw_le r s
  | _, _ => False
theorem mw_le_spec : ∀ {r s : List (Option Value)}, mw_le r s → r.length = s.length ∧ ∀ (i : Nat) (v : Value), r[i]? = some (some v) → s[i]? = some (some v)
  | [], [], _ => ⟨rfl, fun i v h => h⟩
  | [], _ :: _, h => by simp [mw_le] at h
  | none :: r, [], h => by simp [mw_le] at h
  | some v :: r, [], h => by simp [mw_le] at h
  | some v :: r, none :: s, h => by simp [mw_le] at h
  | none :: r, x :: s, h => by
    unfold mw_le at h
    have ih := mw_le_spec h.2
    refine ⟨by simp [ih.1], fun i v hv => ?_⟩
    cases i with
    | zero => simp at hv
    | succ i => simpa using ih.2 i v (by simpa using hv)
  | some v :: r, some w :: s, h => by
    unfold mw_le at h
    have ih := mw_le_spec h.2
    refine ⟨by simp [ih.1], fun i u hv => ?_⟩
    cases i with
    | zero => simpa [h.1] using hv
    | succ i => simpa using ih.2 i u (by simpa using hv)
def mw_ck (q : mw_I) (cd' : mw_CD) (st : List Value) : Bool := mw_isinv q.1 && decide (q.2.2.1.2.1 < 8) && decide (q.2.2.1.1 ≤ st.length) && decide (mw_cats (st.drop q.2.2.1.1) ≤ 8) && (st.take q.2.2.1.1).all (fun v => decide (v.category = 1)) && decide (q.2.2.1.1 ≤ cd'.2.2.1) && (if q.2.2.1.2.1 = 5 then !cd'.2.2.2.2.2.isEmpty else cd'.2.2.2.2.2.isEmpty)
/-- what a caller does with an exception -/
def mw_hx (cd : mw_CD) (pc : Nat) (e : Nat) (Qr : Option Value → mw_Mem → Prop) (Qx : Nat → mw_Mem → Prop) (M : mw_Mem) : Prop := match mw_hfind cd.2.2.2.2.2 pc e with
  | some k => Qr (some (.int (Int32.ofNat k))) M
  | none => Qx e M
section
variable {sc : Nat × (Nat → Int32)} {Good : mw_CD → Prop} {cd : mw_CD} {d D : Nat} {f : mw_Fr} {Qr : Option Value → mw_Mem → Prop} {Qx : Nat → mw_Mem → Prop}
theorem mw_rn_ok (stop : List Nat) (n : Nat) (h : mw_rn sc cd stop n f (fun g => mw_Wp sc Good cd D g Qr Qx) Qr) : mw_Wp sc Good cd D f Qr Qx := by
  induction n generalizing f with
  | zero => exact h
  | succ n ih =>
    unfold mw_rn at h
    split at h
    · exact h
    · exact mw_Wp.in (Or.inl (mw_app_mono (fun g k => ih k) h))
theorem mw_Wp.run (stop : List Nat) (n : Nat) (h : mw_app (mw_stp sc cd f) (fun g => mw_rn sc cd stop n g (fun g => mw_Wp sc Good cd D g Qr Qx) Qr) Qr) : mw_Wp sc Good cd D f Qr Qx :=
  mw_Wp.in (Or.inl (mw_app_mono (fun g k => mw_rn_ok stop n k) h))
theorem mw_Wp.wkl {pc : Nat} {ls : List (Option Value)} {st : List Value} {M : mw_Mem} {c sl : Nat} (ls' : List (Option Value)) (hl : mw_le ls' ls) (h : mw_Wp sc Good cd D (pc, ls', st, M, c, sl) Qr Qx) : mw_Wp sc Good cd D (pc, ls, st, M, c, sl) Qr Qx :=
  mw_Wp.wk D ls' c sl (Nat.le_refl _) (mw_le_spec hl).1 (mw_le_spec hl).2 (Nat.le_refl _) (Nat.le_refl _) h
theorem mw_Wp.less {pc : Nat} {ls : List (Option Value)} {st : List Value} {M : mw_Mem} {c sl c' s' D' : Nat} (hD : D' ≤ D) (hc : c' ≤ c) (hs : s' ≤ sl) (h : mw_Wp sc Good cd D' (pc, ls, st, M, c', s') Qr Qx) : mw_Wp sc Good cd D (pc, ls, st, M, c, sl) Qr Qx :=
  mw_Wp.wk D' ls c' s' hD rfl (fun _ _ h => h) hc hs h
theorem mw_Wp.cal {pc : Nat} {ls : List (Option Value)} {st : List Value} {M : mw_Mem} {c sl : Nat} (q : mw_I) (cd' : mw_CD) (D' mc ms : Nat) (h1 : mw_lk cd pc = some q) (hb : mw_ck q cd' st = true) (h4 : q.2.2.2.2.1 = cd'.1) (h5 : Good cd') (h6 : D' < D) (h7 : mc ≤ c) (h8 : ms ≤ sl) (h10 : mw_recv q st M)
    (a : mw_Wp sc Good cd' D' (0, mw_entry cd'.2.2.1 (st.take q.2.2.1.1).reverse, [], M, mc, ms) (fun v M9 => mw_Wp sc Good cd D (pc + 3, ls, v.toList ++ st.drop q.2.2.1.1, M9, c - mc, sl - ms) Qr Qx) (fun e9 M9 => mw_hx cd pc e9 Qr Qx M9)) : mw_Wp sc Good cd D (pc, ls, st, M, c, sl) Qr Qx := by
  obtain ⟨D1, rfl⟩ : ∃ k, D = k + 1 := ⟨D - 1, by omega⟩
  unfold mw_ck at hb
  simp only [Bool.and_eq_true, decide_eq_true_eq] at hb
  obtain ⟨⟨⟨⟨⟨⟨k1, k2⟩, k3⟩, k4⟩, k5⟩, k6⟩, k7⟩ := hb
  refine mw_Wp.call q cd' D1 mc ms _ _ h1 k1 k2 h4 h5 rfl h7 h8 k3 h10 ⟨k4, k5, k6, ?_⟩ (mw_Wp.less (by omega) (Nat.le_refl _) (Nat.le_refl _) a) (fun v M' k => k) (fun e M' k => k)
  by_cases e : q.2.2.1.2.1 = 5
  · rw [if_pos e] at k7
    exact Or.inl ⟨e, by simpa using k7⟩
  · rw [if_neg e] at k7
    exact Or.inr ⟨e, k7⟩
end

