/-! ===== THE MACHINE OVER WHOLE NUMBERS: values and cells are whole numbers in range; a row an instruction ===== -/
/-- an int, a reference or null, a long, a double's bits, a float's bits -/
abbrev nw_V : Type := Int ⊕ Option Nat ⊕ Int ⊕ UInt64 ⊕ UInt32
/-- ints by place and slot; longs; doubles; history's order; the line's bytes; kinds of later places; how many places -/
abbrev nw_Mem : Type := (Nat → Int → Int) × (Nat → Int → Int) × (Nat → Int → UInt64) × (Nat → Nat) × Nat × (Nat → Option (Nat × Nat)) × Nat
abbrev nw_in (x : Int) : Prop := -2147483648 ≤ x ∧ x < 2147483648
abbrev nw_il (x : Int) : Prop := -9223372036854775808 ≤ x ∧ x < 9223372036854775808
def nw_v (v : nw_V) : Value := match v with
  | .inl x => .int (Int32.ofInt x)
  | .inr (.inl (some a)) => .ref a
  | .inr (.inl none) => .retAddr 0
  | .inr (.inr (.inl x)) => .long (Int64.ofInt x)
  | .inr (.inr (.inr (.inl x))) => .double x
  | .inr (.inr (.inr (.inr x))) => .float x
def nw_okV (v : nw_V) : Prop := match v with
  | .inl x => nw_in x
  | .inr (.inr (.inl x)) => nw_il x
  | _ => True
def nw_u {α : Type} (J : Nat → Int → α) (a : Nat) (i : Int) (v : α) : Nat → Int → α := fun x y => if x = a then (if y = i then v else J x y) else J x y
theorem nw_uS {α : Type} {J : Nat → Int → α} {a : Nat} {i : Int} {v : α} : nw_u J a i v a i = v := by simp [nw_u]
theorem nw_uN {α : Type} {J : Nat → Int → α} {a b : Nat} {i j : Int} {v : α} (h : ¬ b = a) : nw_u J a i v b j = J b j := by simp [nw_u, h]
theorem nw_uI {α : Type} {J : Nat → Int → α} {a b : Nat} {i j : Int} {v : α} (h : ¬ j = i) : nw_u J a i v b j = J b j := by simp [nw_u, h]
def nw_cp (J : Nat → Int → Int) (a b : Nat) (sp dp n : Int) : Nat → Int → Int := fun x k => if x = b then (if dp ≤ k ∧ k < dp + n then J a (sp + (k - dp)) else J x k) else J x k
def nw_m (M : nw_Mem) : mw_Mem := mw_W (fun a k => Int32.ofInt (M.1 a k)) (fun a k => Int64.ofInt (M.2.1 a k)) (fun a k => M.2.2.1 a k) M.2.2.2.1 M.2.2.2.2.1 M.2.2.2.2.2.1 M.2.2.2.2.2.2
abbrev nw_F : Type := Nat × List (Option nw_V) × List nw_V × nw_Mem × Nat × Nat
def nw_ls (ls : List (Option nw_V)) : List (Option Value) := ls.map (fun v => v.map nw_v)
def nw_f (f : nw_F) : mw_Fr := (f.1, nw_ls f.2.1, f.2.2.1.map nw_v, nw_m f.2.2.2.1, f.2.2.2.2.1, f.2.2.2.2.2)
def nw_okM (M : nw_Mem) : Prop := (∀ a k, nw_in (M.1 a k)) ∧ (∀ a k, nw_il (M.2.1 a k))
def nw_ok (f : nw_F) : Prop := nw_okM f.2.2.2.1 ∧ (∀ v, some v ∈ f.2.1 → nw_okV v) ∧ (∀ v, v ∈ f.2.2.1 → nw_okV v)
abbrev nw_QR : Type := Option nw_V → nw_Mem → Prop
abbrev nw_QX : Type := Nat → nw_Mem → Prop
def nw_qr (Q : nw_QR) : Option Value → mw_Mem → Prop := fun v M => ∃ (w : Option nw_V) (N : nw_Mem), v = w.map nw_v ∧ M = nw_m N ∧ nw_okM N ∧ (∀ x, w = some x → nw_okV x) ∧ Q w N
def nw_qx (Q : nw_QX) : Nat → mw_Mem → Prop := fun e M => ∃ N : nw_Mem, M = nw_m N ∧ nw_okM N ∧ Q e N
/-- from this frame the method ends, with Qr where it returns, with Qx where it throws -/
def NW (sc : Nat × (Nat → Int32)) (cd : mw_CD) (D : Nat) (f : nw_F) (Qr : nw_QR) (Qx : nw_QX) : Prop := (nw_ok f → mw_Wp sc mw_Good cd D (nw_f f) (nw_qr Qr) (nw_qx Qx)) = True
abbrev nw_push (v : Option nw_V) (st : List nw_V) : List nw_V := Option.elim v st (fun x => x :: st)
abbrev nw_entry (nL : Nat) (args : List nw_V) : List (Option nw_V) := args.map some ++ List.replicate (nL - args.length) none
def nw_hx (cd : mw_CD) (pc : Nat) (e : Nat) (Qr : nw_QR) (Qx : nw_QX) (M : nw_Mem) : Prop := match mw_hfind cd.2.2.2.2.2 pc e with
  | some k => Qr (some (.inl k)) M
  | none => Qx e M
theorem nw_ti {x : Int} (h : nw_in x) : (Int32.ofInt x).toInt = x := by
  rw [Int32.toInt_ofInt]
  exact Int.bmod_eq_of_le (by have := h.1; simp [Int32.size]; omega) (by have := h.2; simp [Int32.size]; omega)
theorem nw_tl {x : Int} (h : nw_il x) : (Int64.ofInt x).toInt = x := by
  rw [Int64.toInt_ofInt]
  exact Int.bmod_eq_of_le (by have := h.1; simp [Int64.size]; omega) (by have := h.2; simp [Int64.size]; omega)
theorem nw_inj {x y : Int} (hx : nw_in x) (hy : nw_in y) : Int32.ofInt x = Int32.ofInt y ↔ x = y := ⟨fun h => by rw [← nw_ti hx, ← nw_ti hy, h], fun h => by rw [h]⟩
theorem nw_lt {x y : Int} (hx : nw_in x) (hy : nw_in y) : Int32.ofInt x < Int32.ofInt y ↔ x < y := by rw [Int32.lt_iff_toInt_lt, nw_ti hx, nw_ti hy]
theorem nw_le {x y : Int} (hx : nw_in x) (hy : nw_in y) : Int32.ofInt x ≤ Int32.ofInt y ↔ x ≤ y := by rw [Int32.le_iff_toInt_le, nw_ti hx, nw_ti hy]
theorem nw_cl {x : Int} (hx : nw_in x) : (Int32.ofInt x).toNatClampNeg = x.toNat := by
  show (Int32.ofInt x).toInt.toNat = x.toNat
  rw [nw_ti hx]
theorem nw_vpin {x : Int} {n : Nat} (hx : nw_in x) (h : 0 ≤ x ∧ x < n) : vp_in (Int32.ofInt x) n := by
  unfold vp_in
  rw [nw_cl hx, show (0 : Int32) = Int32.ofInt 0 from rfl, nw_lt hx ⟨by decide, by decide⟩]
  omega
theorem nw_uM {J : Nat → Int → Int} {a : Nat} {i v : Int} (hi : nw_in i) (h : 0 ≤ i) : mw_u (fun a k => Int32.ofInt (J a k)) a (Int32.ofInt i).toNatClampNeg (Int32.ofInt v) = fun x (y : Nat) => Int32.ofInt (nw_u J a i v x y) := by
  rw [nw_cl hi]
  funext x y
  unfold mw_u nw_u
  by_cases e : x = a
  · rw [if_pos e, if_pos e]
    by_cases e2 : y = i.toNat
    · rw [if_pos e2, if_pos (by omega)]
    · rw [if_neg e2, if_neg (by omega)]
  · rw [if_neg e, if_neg e]
theorem nw_uF {α β : Type} {g : α → β} {J : Nat → Int → α} {a i : Nat} {v : α} : mw_u (fun a (k : Nat) => g (J a k)) a i (g v) = fun x (y : Nat) => g (nw_u J a i v x y) := by
  funext x y
  unfold mw_u nw_u
  by_cases e : x = a
  · rw [if_pos e, if_pos e]
    by_cases e2 : y = i
    · rw [if_pos e2, if_pos (by omega)]
    · rw [if_neg e2, if_neg (by omega)]
  · rw [if_neg e, if_neg e]
theorem nw_uin {P : Int → Prop} {J : Nat → Int → Int} {a : Nat} {i v : Int} (hJ : ∀ a k, P (J a k)) (hv : P v) : ∀ b k, P (nw_u J a i v b k) := by
  intro b k
  unfold nw_u
  split
  · split
    · exact hv
    · exact hJ _ _
  · exact hJ _ _
theorem nw_kd {M : nw_Mem} {a : Nat} {q : Nat × Nat} (h : a < 303 ∧ mw_kd0 a = some q) : (nw_m M).2.2.2.2.1 a = some q := by
  show mw_kdx _ a = some q
  unfold mw_kdx
  rw [if_pos h.1, h.2]
theorem nw_lsat {ls : List (Option nw_V)} {i : Nat} {v : nw_V} (h : ls[i]? = some (some v)) : mw_ld (nw_ls ls) i = some (nw_v v) := by
  unfold mw_ld nw_ls
  rw [List.getElem?_map, h]
  rfl
section
variable {sc : Nat × (Nat → Int32)} {cd : mw_CD} {D pc : Nat} {ls : List (Option nw_V)} {st : List nw_V} {M : nw_Mem} {c sl : Nat} {Qr : nw_QR} {Qx : nw_QX}
theorem nw_gen {q : mw_I} {f : nw_F} (hl : mw_lk cd f.1 = some q) (hs : nw_ok f → mw_app (mw_ins sc cd.2.2.2.1 q f.1 (nw_ls f.2.1) (f.2.2.1.map nw_v) (nw_m f.2.2.2.1) f.2.2.2.2.1 f.2.2.2.2.2) (fun g' => ∃ g, g' = nw_f g ∧ nw_ok g ∧ NW sc cd D g Qr Qx) (nw_qr Qr)) : NW sc cd D f Qr Qx := by
  refine eq_true fun ok => mw_Wp.in (Or.inl ?_)
  have e : mw_stp sc cd (nw_f f) = mw_ins sc cd.2.2.2.1 q f.1 (nw_ls f.2.1) (f.2.2.1.map nw_v) (nw_m f.2.2.2.1) f.2.2.2.2.1 f.2.2.2.2.2 := by
    unfold mw_stp
    rw [show (nw_f f).1 = f.1 from rfl, hl]
    rfl
  rw [e]
  exact mw_app_mono (fun g' ⟨g, e, o, h⟩ => e ▸ (of_eq_true h) o) (hs ok)
/-- the frame's numbers are in range -/
theorem nw_rng {f : nw_F} (h : nw_ok f → NW sc cd D f Qr Qx) : NW sc cd D f Qr Qx := eq_true fun ok => of_eq_true (h ok) ok
theorem nw_wk {ls' : List (Option nw_V)} (hl : mw_le (nw_ls ls') (nw_ls ls)) (hs : ∀ v, some v ∈ ls' → some v ∈ ls) (h : NW sc cd D (pc, ls', st, M, c, sl) Qr Qx) : NW sc cd D (pc, ls, st, M, c, sl) Qr Qx :=
  eq_true fun ok => mw_Wp.wkl (nw_ls ls') hl (of_eq_true h ⟨ok.1, fun v hv => ok.2.1 v (hs v hv), ok.2.2⟩)
theorem nw_fact (h : M.2.2.2.2.2.2 ≤ 990000 → NW sc cd D (pc, ls, st, M, c, sl) Qr Qx) : NW sc cd D (pc, ls, st, M, c, sl) Qr Qx :=
  eq_true fun ok => mw_Wp.fact (fun k => of_eq_true (h k) ok)
theorem nw_less {D' c' s' : Nat} (hD : D' ≤ D) (hc : c' ≤ c) (hs : s' ≤ sl) (h : NW sc cd D' (pc, ls, st, M, c', s') Qr Qx) : NW sc cd D (pc, ls, st, M, c, sl) Qr Qx :=
  eq_true fun ok => mw_Wp.less hD hc hs (of_eq_true h ok)
theorem nw_mono {f : nw_F} {Qr' : nw_QR} {Qx' : nw_QX} (hr : ∀ v M, Qr v M → Qr' v M) (hx : ∀ e M, Qx e M → Qx' e M) (h : NW sc cd D f Qr Qx) : NW sc cd D f Qr' Qx' :=
  eq_true fun ok => mw_Wp.mono (of_eq_true h ok) (fun v M ⟨w, N, a, b, c, d, e⟩ => ⟨w, N, a, b, c, d, hr _ _ e⟩) (fun e M ⟨N, a, b, c⟩ => ⟨N, a, b, hx _ _ c⟩)
theorem nw_okc {P : nw_V → Prop} {v : nw_V} {st : List nw_V} (hv : P v) (h : ∀ w, w ∈ st → P w) : ∀ w, w ∈ v :: st → P w := fun w hw => (List.mem_cons.mp hw).elim (fun e => e ▸ hv) (h w)
theorem nw_oks {ls : List (Option nw_V)} {i : Nat} {v : nw_V} (hv : nw_okV v) (h : ∀ w, some w ∈ ls → nw_okV w) : ∀ w, some w ∈ ls.set i (some v) → nw_okV w := fun w hw => by
  rcases List.mem_or_eq_of_mem_set hw with hw | hw
  · exact h w hw
  · cases hw
    exact hv
theorem nw_atok {ls : List (Option nw_V)} {i : Nat} {v : nw_V} (h : ls[i]? = some (some v)) (hs : ∀ w, some w ∈ ls → nw_okV w) : nw_okV v := hs v (List.mem_of_getElem? h)
theorem nw_lset {ls : List (Option nw_V)} {i : Nat} {v : nw_V} : (nw_ls ls).set i (some (nw_v v)) = nw_ls (ls.set i (some v)) := by
  unfold nw_ls
  rw [List.map_set]
  rfl
/-- a store to a local of one slot -/
abbrev nw_ok1 (ls : List (Option nw_V)) (i : Nat) : Bool := mw_ok1 (nw_ls ls) i
end

