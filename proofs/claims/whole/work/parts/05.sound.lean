/-! ===== THE ABSTRACT MACHINE IS THE MACHINE: its code against the bytes, its memory against the heap ===== -/
def mw_ens : MethodName := ⟨"java/lang/AbstractStringBuilder", "ensureCapacityInternal", "(I)V"⟩
def mw_ncp : MethodName := ⟨"java/lang/AbstractStringBuilder", "newCapacity", "(I)I"⟩
/-- private methods are selected whatever the receiver's class is -/
def mw_sel : List Jvm.Cond := [Cond.selects "java/lang/StringBuilder" mw_ens mw_ens, Cond.selects "java/lang/StringBuilder" mw_ncp mw_ncp]
def mw_tbl : List Jvm.Cond := mw_sel ++ lw_tbl
/-- the tables in their pieces: place i is i % 1000 of piece i / 1000 -/
def mw_seg (k : Nat) : List Jvm.Cond := match k with
  | 0 => k2_sels lw_privs
  | 1 => tables_1_1
  | 2 => tables_1_2
  | 3 => tables_1_3
  | 4 => tables_1_4
  | 5 => tables_1_5
  | 6 => tables_1_6
  | 7 => tables_1_7
  | 8 => tables_1_8
  | 9 => tables_1_9
  | 10 => tables_1_10
  | 11 => tables_1_11
  | 12 => mw_sel
  | _ => []
def mw_get (i : Nat) : Option Jvm.Cond := (mw_seg (i / 1000))[i % 1000]?
theorem mw_get_in {i : Nat} {w : Jvm.Cond} (h : mw_get i = some w) : w ∈ mw_tbl := by
  have h1 : w ∈ mw_seg (i / 1000) := List.mem_of_getElem? h
  revert h1
  generalize i / 1000 = k
  unfold mw_tbl lw_tbl tables_1
  unfold mw_seg
  intro h1
  simp only [List.mem_append]
  split at h1
  · exact Or.inr (Or.inl h1)
  · exact Or.inr (Or.inr (Or.inl h1))
  · exact Or.inr (Or.inr (Or.inr (Or.inl h1)))
  · exact Or.inr (Or.inr (Or.inr (Or.inr (Or.inl h1))))
  · exact Or.inr (Or.inr (Or.inr (Or.inr (Or.inr (Or.inl h1)))))
  · exact Or.inr (Or.inr (Or.inr (Or.inr (Or.inr (Or.inr (Or.inl h1))))))
  · exact Or.inr (Or.inr (Or.inr (Or.inr (Or.inr (Or.inr (Or.inr (Or.inl h1)))))))
  · exact Or.inr (Or.inr (Or.inr (Or.inr (Or.inr (Or.inr (Or.inr (Or.inr (Or.inl h1))))))))
  · exact Or.inr (Or.inr (Or.inr (Or.inr (Or.inr (Or.inr (Or.inr (Or.inr (Or.inr (Or.inl h1)))))))))
  · exact Or.inr (Or.inr (Or.inr (Or.inr (Or.inr (Or.inr (Or.inr (Or.inr (Or.inr (Or.inr (Or.inl h1))))))))))
  · exact Or.inr (Or.inr (Or.inr (Or.inr (Or.inr (Or.inr (Or.inr (Or.inr (Or.inr (Or.inr (Or.inr (Or.inl h1)))))))))))
  · exact Or.inr (Or.inr (Or.inr (Or.inr (Or.inr (Or.inr (Or.inr (Or.inr (Or.inr (Or.inr (Or.inr (Or.inr h1)))))))))))
  · exact Or.inl h1
  · cases h1
def mw_wd (i : Nat) (w : Jvm.Cond) : Bool := decide (mw_get i = some w) && goodWord w
def mw_T : List Jvm.Cond := mw_tbl.filter goodWord
theorem mw_wd_in {i : Nat} {w : Jvm.Cond} (h : mw_wd i w = true) : w ∈ mw_T := by
  simp only [mw_wd, Bool.and_eq_true, decide_eq_true_eq] at h
  exact List.mem_filter.mpr ⟨mw_get_in h.1, h.2⟩
theorem mw_T_good : ∀ w ∈ mw_T, goodWord w = true := fun w h => (List.mem_filter.mp h).2
/-- words that stay when the tables warm, though they aren't among the good ones -/
def mw_ng (w : Jvm.Cond) : Bool := match w with
  | .methodLinkNest _ _ _ _ => true
  | .declares _ => true
  | .castable _ _ => true
  | .arrayOver (.object _) => true
  | .arrayOver (.array _) => true
  | _ => false
def mw_wn (i : Nat) (w : Jvm.Cond) : Bool := decide (mw_get i = some w) && mw_ng w
def mw_N : List Jvm.Cond := mw_tbl.filter mw_ng
theorem mw_wn_in {i : Nat} {w : Jvm.Cond} (h : mw_wn i w = true) : w ∈ mw_N := by
  simp only [mw_wn, Bool.and_eq_true, decide_eq_true_eq] at h
  exact List.mem_filter.mpr ⟨mw_get_in h.1, h.2⟩
def mw_pl (ps : List Nat) (i : Nat) : Nat := ps.getD i 0
def mw_dec (bytes : ByteArray) (pc : Nat) (i : Instr) (n : Nat) : Bool := match decode bytes pc with
  | .ok (j, k) => decide (j = i) && decide (k = n)
  | _ => false
theorem mw_dec_eq {bytes : ByteArray} {pc : Nat} {i : Instr} {n : Nat} (h : mw_dec bytes pc i n = true) : decode bytes pc = .ok (i, n) := by
  unfold mw_dec at h
  split at h
  · rename_i j k e
    simp only [Bool.and_eq_true, decide_eq_true_eq] at h
    rw [e, h.1, h.2]
  · cases h
def mw_exs : List String := ["java/lang/RuntimeException", "java/lang/Exception"]
/-- what an instruction's row in the abstract code says is so -/
def mw_chkI (y : MethodName) (bytes : ByteArray) (pc : Nat) (q : mw_I) : Bool := mw_dec bytes pc q.1 q.2.1 && (match q.1 with
  | .iconst n => decide (Int32.ofInt n = q.2.2.2.2.2 ∧ q.2.1 = 1)
  | .bipush n => decide ((Int8.ofInt n).toInt32 = q.2.2.2.2.2 ∧ q.2.1 = 2)
  | .sipush n => decide ((Int16.ofInt n).toInt32 = q.2.2.2.2.2 ∧ q.2.1 = 3)
  | .ldc i => (match q.2.2.1.1 with
    | 1 => decide (y.cls = "MoonFerryOffice$CommandText" ∧ i = 64 + 2 * q.2.2.1.2.1 ∧ q.2.2.1.2.1 < 10 ∧ q.2.1 = 2)
    | _ => mw_wd (mw_pl q.2.2.2.1 0) (.constant y.cls i q.2.2.2.2.2) && decide (q.2.1 = 2))
  | .ldc_w i => mw_wd (mw_pl q.2.2.2.1 0) (.constant y.cls i q.2.2.2.2.2) && decide (q.2.1 = 3)
  | .getstatic i => (match q.2.2.1.1 with
    | 0 => mw_wd (mw_pl q.2.2.2.1 0) (.fieldLink y.cls i "java/lang/String" "COMPACT_STRINGS" "Z") && decide (q.2.1 = 3)
    | 1 => mw_wd (mw_pl q.2.2.2.1 0) (.fieldLink y.cls i "java/lang/Integer" "DigitOnes" "[B") && decide (q.2.1 = 3)
    | 2 => mw_wd (mw_pl q.2.2.2.1 0) (.fieldLink y.cls i "java/lang/Integer" "DigitTens" "[B") && decide (q.2.1 = 3)
    | _ => mw_wd (mw_pl q.2.2.2.1 0) (.fieldLink y.cls i "jdk/internal/util/Preconditions" "SIOOBE_FORMATTER" "Ljava/util/function/BiFunction;") && decide (q.2.1 = 3))
  | .ldc2_w i => mw_wd (mw_pl q.2.2.2.1 0) (.constantLong y.cls i q.2.2.2.2.2.toInt64) && decide (q.2.1 = 3)
  | .iload_n n | .aload_n n | .fload_n n | .dload_n n | .istore_n n | .astore_n n | .fstore_n n | .dstore_n n => decide ((n : Nat) = q.2.2.1.1 ∧ q.2.1 = 1)
  | .iload n | .aload n | .fload n | .dload n | .istore n | .astore n | .fstore n | .dstore n => decide (n = q.2.2.1.1 ∧ q.2.1 = 2)
  | .iinc i n => decide (i = q.2.2.1.1 ∧ Int32.ofInt n = q.2.2.2.2.2 ∧ q.2.1 = 3)
  | .if_icmp _ off => decide ((pc : Int) + off = (q.2.2.1.1 : Int) ∧ q.2.1 = 3)
  | .ifCond _ off => decide ((pc : Int) + off = (q.2.2.1.1 : Int) ∧ q.2.1 = 3)
  | .goto off => decide ((pc : Int) + off = (q.2.2.1.1 : Int) ∧ q.2.1 = 3)
  | .tableswitch d lo hi offs => decide ((pc : Int) + d = (q.2.2.1.1 : Int) ∧ hi - lo + 1 = (offs.size : Int) ∧ q.2.2.2.1.length = offs.size) && (List.range offs.size).all (fun j => decide ((pc : Int) + offs.getD j 0 = (q.2.2.2.1.getD j 0 : Int)))
  | .getfield i => (match vwCl[q.2.2.1.1]? with
    | some r => decide (q.2.2.1.2.1 < r.2.2 ∧ mw_tg (r.2.1 q.2.2.1.2.1).2.2.1 = q.2.2.1.2.2 ∧ q.2.1 = 3) && mw_wd (mw_pl q.2.2.2.1 0) (.fieldLink y.cls i (r.2.1 q.2.2.1.2.1).1 (r.2.1 q.2.2.1.2.1).2.1 (r.2.1 q.2.2.1.2.1).2.2.1)
    | none => false)
  | .putfield i => (match vwCl[q.2.2.1.1]? with
    | some r => decide (q.2.2.1.2.1 < r.2.2 ∧ mw_tg (r.2.1 q.2.2.1.2.1).2.2.1 = q.2.2.1.2.2 ∧ q.2.1 = 3 ∧ ((r.2.1 q.2.2.1.2.1).2.2.2 = false ∨ (y.name = "<init>" ∧ (r.2.1 q.2.2.1.2.1).1 = y.cls))) && mw_wd (mw_pl q.2.2.2.1 0) (.fieldLink y.cls i (r.2.1 q.2.2.1.2.1).1 (r.2.1 q.2.2.1.2.1).2.1 (r.2.1 q.2.2.1.2.1).2.2.1)
    | none => false)
  | .new i => (match q.2.2.1.2.2 with
    | 0 => (match vwCl[q.2.2.1.1]? with
      | some r => decide (r.2.2 = q.2.2.1.2.1 ∧ q.2.1 = 3) && mw_wd (mw_pl q.2.2.2.1 0) (.classLink y.cls i r.1) && mw_wd (mw_pl q.2.2.2.1 1) (.instantiable r.1 r.2.2) && mw_wd (mw_pl q.2.2.2.1 2) (.initialized r.1)
      | none => false)
    | _ => mw_wd (mw_pl q.2.2.2.1 0) (.classLink y.cls i (mw_exn q.2.2.1.1)) && mw_wd (mw_pl q.2.2.2.1 1) (.initialized (mw_exn q.2.2.1.1)) && mw_dec bytes (pc + 3) .dup 1 && mw_dec bytes (pc + 4) (.invokespecial q.2.2.1.2.1) 3 && mw_dec bytes (pc + 7) .athrow 1 && decide (q.2.1 = 3 ∧ q.2.2.1.1 < 6) && (vx_at0 y.cls q.2.2.1.2.1 (mw_exn q.2.2.1.1) mw_exs).all (fun w => (goodWord w || mw_ng w) && decide (w ∈ mw_tbl) && vx_ot w))
  | .newarray t => mw_wd (mw_pl q.2.2.2.1 0) (.arrayClass (newarray.typeOf t)) && decide (q.2.1 = 2 ∧ ¬ mw_akind t = 19)
  | .anewarray i => mw_wd (mw_pl q.2.2.2.1 0) (.classLink y.cls i "MoonFerryOffice$State") && mw_wn (mw_pl q.2.2.2.1 1) (.arrayOver (.object "MoonFerryOffice$State")) && decide (q.2.1 = 3)
  | .invokevirtual i => decide (q.2.2.1.2.1 = 0 ∧ q.2.1 = 3 ∧ 0 < q.2.2.1.1 ∧ (parseMethodDescriptor q.2.2.2.2.1.desc).map (fun d => d.parameters.length) = some (q.2.2.1.1 - 1)) && mw_wd (mw_pl q.2.2.2.1 0) (.methodLink y.cls i q.2.2.2.2.1) && mw_wd (mw_pl q.2.2.2.1 1) (.instanceMethod q.2.2.2.2.1) && (match vwCl[q.2.2.1.2.2]? with
    | some r => mw_wd (mw_pl q.2.2.2.1 2) (.selects r.1 q.2.2.2.2.1 q.2.2.2.2.1)
    | none => false)
  | .multianewarray i n => decide (n = 2 ∧ q.2.1 = 4) && mw_wd (mw_pl q.2.2.2.1 0) (.classLink y.cls i "[[I") && mw_wn (mw_pl q.2.2.2.1 1) (.arrayOver (.array .int)) && mw_wd (mw_pl q.2.2.2.1 2) (.arrayClass .int)
  | .invokestatic i => (match q.2.2.1.2.1 with
    | 9 => decide (q.2.1 = 3) && mw_wd (mw_pl q.2.2.2.1 0) (.methodLink y.cls i arraycopyName) && mw_wd (mw_pl q.2.2.2.1 1) (.native arraycopyName) && mw_wd (mw_pl q.2.2.2.1 2) (.static arraycopyName) && mw_wd (mw_pl q.2.2.2.1 3) (.initialized "java/lang/System")
    | k9 => decide (q.2.1 = 3 ∧ (parseMethodDescriptor q.2.2.2.2.1.desc).map (fun d => d.parameters.length) = some q.2.2.1.1) && mw_wd (mw_pl q.2.2.2.1 1) (.static q.2.2.2.2.1) && (match k9 with
      | 1 => mw_wd (mw_pl q.2.2.2.1 0) (.methodLink y.cls i q.2.2.2.2.1)
      | 5 => mw_wd (mw_pl q.2.2.2.1 0) (.methodLink y.cls i q.2.2.2.2.1)
      | 4 => mw_wn (mw_pl q.2.2.2.1 0) (.methodLinkNest y.cls i q.2.2.2.2.1 "MoonFerryOffice")
      | _ => false))
  | .invokespecial i => (match q.2.2.1.2.1 with
    | 8 => decide (q.2.1 = 3) && mw_wd (mw_pl q.2.2.2.1 0) (.methodLink y.cls i Lib.objectInit) && mw_wd (mw_pl q.2.2.2.1 1) (.instanceMethod Lib.objectInit) && mw_wd (mw_pl q.2.2.2.1 2) (.code Lib.objectInit ⟨#[0xb1]⟩ 1 none)
    | 6 => decide (q.2.1 = 3 ∧ 0 < q.2.2.1.1 ∧ q.2.2.2.2.1.name ≠ "<init>" ∧ (vwCl[q.2.2.1.2.2]?).isSome = true ∧ (parseMethodDescriptor q.2.2.2.2.1.desc).map (fun d => d.parameters.length) = some (q.2.2.1.1 - 1)) && mw_wd (mw_pl q.2.2.2.1 0) (.methodLink y.cls i q.2.2.2.2.1) && mw_wd (mw_pl q.2.2.2.1 1) (.instanceMethod q.2.2.2.2.1) && mw_wd (mw_pl q.2.2.2.1 2) (.sameMethod q.2.2.2.2.1.cls q.2.2.2.2.1.cls q.2.2.2.2.1.name q.2.2.2.2.1.desc) && mw_wd (mw_pl q.2.2.2.1 3) (.superclass y.cls q.2.2.2.2.1.cls)
    | k9 => decide (q.2.1 = 3 ∧ 0 < q.2.2.1.1 ∧ q.2.2.2.2.1.name = "<init>" ∧ (parseMethodDescriptor q.2.2.2.2.1.desc).map (fun d => d.parameters.length) = some (q.2.2.1.1 - 1)) && mw_wd (mw_pl q.2.2.2.1 1) (.instanceMethod q.2.2.2.2.1) && (match k9 with
      | 2 => mw_wd (mw_pl q.2.2.2.1 0) (.methodLink y.cls i q.2.2.2.2.1)
      | 3 => mw_wn (mw_pl q.2.2.2.1 0) (.methodLinkNest y.cls i q.2.2.2.2.1 "MoonFerryOffice")
      | _ => false))
  | _ => decide (q.2.1 = 1))
def mw_chk (cd : mw_CD) : Bool := cd.2.2.2.2.1.all (fun l => l.all (fun z => mw_chkI cd.1 cd.2.1 z.1 z.2))
theorem mw_find_in {l : List (Nat × mw_I)} {pc : Nat} {q : mw_I} (h : mw_find l pc = some q) : (pc, q) ∈ l := by
  induction l with
  | nil => cases h
  | cons a r ih =>
    unfold mw_find at h
    by_cases e : a.1 = pc
    · rw [if_pos e] at h
      cases h
      subst e
      exact List.mem_cons_self
    · rw [if_neg e] at h
      exact List.mem_cons_of_mem _ (ih h)
theorem mw_lk_chk {cd : mw_CD} {pc : Nat} {q : mw_I} (hc : mw_chk cd = true) (h : mw_lk cd pc = some q) : mw_chkI cd.1 cd.2.1 pc q = true := by
  unfold mw_lk at h
  split at h
  · rename_i l e
    unfold mw_chk at hc
    rw [List.all_eq_true] at hc
    have h1 := hc l (List.mem_of_getElem? e)
    rw [List.all_eq_true] at h1
    exact h1 (pc, q) (mw_find_in h)
  · cases h
/-- B: where the law's own cells begin; D: the classes; the classes of the array kinds; where old things lie -/
abbrev mw_G : Type := Nat × va_G × (Nat → ClassId) × (Nat → Nat) × (Nat × (Nat → Int32))
def mw_rho (G : mw_G) (a : Nat) : Nat := if a < 1000000 then G.1 + a else G.2.2.2.1 a
/-- what a static of the JDK holds that nobody uses: null or a reference -/
def mw_fm (G : mw_G) : Value := if G.2.2.2.1 1000300 = 0 then .null else .ref (G.2.2.2.1 1000301)
theorem mw_fm_cat (G : mw_G) : (mw_fm G).category = 1 := by
  unfold mw_fm
  split <;> rfl
def mw_tr (G : mw_G) (v : Value) : Value := match v with
  | .ref a => .ref (mw_rho G a)
  | .int x => .int x
  | .long x => .long x
  | .float x => .float x
  | .double x => .double x
  | .null => .null
  | .retAddr _ => mw_fm G
theorem mw_tr_cat (G : mw_G) (v : Value) : (mw_tr G v).category = v.category := by
  cases v <;> first | rfl | exact mw_fm_cat G
theorem mw_tr_rv (G : mw_G) (r : Option Nat) : mw_tr G (mw_rv r) = va_rf (r.map (mw_rho G)) := by cases r <;> rfl
def mw_fv (G : mw_G) (M : mw_Mem) (k a j : Nat) : Value := mw_tr G (mw_gv (mw_tag k j) M a j)
def mw_cell (G : mw_G) (M : mw_Mem) (k n a : Nat) : va_E := match k with
  | 20 => .inl (G.2.2.1 0, n, .inl (M.1 a))
  | 21 => .inl (G.2.2.1 1, n, .inl (M.1 a))
  | 22 => .inl (G.2.2.1 2, n, .inr (.inl (M.2.1 a)))
  | 23 => .inl (G.2.2.1 3, n, .inr (.inr (.inr (.inl (M.2.2.1 a)))))
  | 24 => .inl (G.2.2.1 4, n, .inl (M.1 a))
  | 25 => .inl (G.2.2.1 5, n, .inr (.inr (.inr (.inr (fun j => (M.2.2.2.1 a j).map (mw_rho G))))))
  | 26 => .inl (G.2.2.1 6, n, .inr (.inr (.inr (.inr (fun j => (M.2.2.2.1 a j).map (mw_rho G))))))
  | k => .inr (k, (List.range (((vwCl[k]?).map (fun r => r.2.2)).getD 0)).map (mw_fv G M k a))
def mw_aty (j : Nat) : FieldType := match j with
  | 0 => .int
  | 1 => .char
  | 2 => .long
  | 3 => .double
  | 4 => .byte
  | 5 => .object "MoonFerryOffice$State"
  | _ => .array .int
def mw_tys (G : mw_G) : List (ClassId × FieldType) := (List.range 7).map (fun j => (G.2.2.1 j, mw_aty j))
def mw_Rel (G : mw_G) (M : mw_Mem) (H : Heap) : Prop := H.size = G.1 + M.2.2.2.2.2 ∧ ∀ (a : Nat) (k : Nat × Nat), M.2.2.2.2.1 a = some k → a < 1000000 ∧ (k.1 < 27) ∧ va_at G.2.1 vwCl (G.1 + a, mw_cell G M k.1 k.2 a) H
def mw_toL (G : mw_G) : Nat → List (Option Value) → List (Nat × Value)
  | _, [] => []
  | i, none :: r => mw_toL G (i + 1) r
  | i, some v :: r => (i, mw_tr G v) :: mw_toL G (i + 1) r
theorem mw_toL_in (G : mw_G) : ∀ (ls : List (Option Value)) (i : Nat) (q : Nat × Value), q ∈ mw_toL G i ls ↔ ∃ (j : Nat) (v : Value), ls[j]? = some (some v) ∧ q = (i + j, mw_tr G v)
  | [], i, q => by simp [mw_toL]
  | none :: r, i, q => by
    rw [mw_toL, mw_toL_in G r (i + 1) q]
    constructor
    · rintro ⟨j, v, h, rfl⟩
      exact ⟨j + 1, v, by simpa using h, by rw [show i + 1 + j = i + (j + 1) by omega]⟩
    · rintro ⟨j, v, h, rfl⟩
      cases j with
      | zero => simp at h
      | succ j => exact ⟨j, v, by simpa using h, by rw [show i + 1 + j = i + (j + 1) by omega]⟩
  | some w :: r, i, q => by
    rw [mw_toL, List.mem_cons, mw_toL_in G r (i + 1) q]
    constructor
    · rintro (rfl | ⟨j, v, h, rfl⟩)
      · exact ⟨0, w, by simp, by simp⟩
      · exact ⟨j + 1, v, by simpa using h, by rw [show i + 1 + j = i + (j + 1) by omega]⟩
    · rintro ⟨j, v, h, rfl⟩
      cases j with
      | zero => simp at h; subst h; exact Or.inl (by simp)
      | succ j => exact Or.inr ⟨j, v, by simpa using h, by rw [show i + 1 + j = i + (j + 1) by omega]⟩
def mw_LR (G : mw_G) (nL : Nat) (ls : List (Option Value)) (lsR : Array Slot) : Prop := ls.length = nL ∧ lv_has lsR nL (mw_toL G 0 ls)
theorem mw_LR_at {G : mw_G} {nL : Nat} {ls : List (Option Value)} {lsR : Array Slot} (h : mw_LR G nL ls lsR) {i : Nat} {v : Value} (hv : mw_ld ls i = some v) : lsR[i]? = some (.val (mw_tr G v)) := by
  have h1 : ls[i]? = some (some v) := by
    unfold mw_ld at hv
    split at hv
    · rename_i w e
      cases hv
      exact e
    · cases hv
  exact h.2.2.2 (i, mw_tr G v) ((mw_toL_in G ls 0 _).mpr ⟨i, v, h1, by simp⟩)
theorem mw_LR_sub {G : mw_G} {nL : Nat} {ls ls' : List (Option Value)} {lsR : Array Slot} (h : mw_LR G nL ls lsR) (hl : ls'.length = ls.length) (hs : ∀ (i : Nat) (v : Value), ls'[i]? = some (some v) → ls[i]? = some (some v)) : mw_LR G nL ls' lsR := by
  refine ⟨hl.trans h.1, h.2.1, h.2.2.1, fun q hq => ?_⟩
  obtain ⟨j, v, hj, rfl⟩ := (mw_toL_in G ls' 0 q).mp hq
  exact h.2.2.2 _ ((mw_toL_in G ls 0 _).mpr ⟨j, v, hs j v hj, rfl⟩)
theorem mw_ok1_lt {ls : List (Option Value)} {i : Nat} (h : mw_ok1 ls i = true) : i < ls.length := by
  simp only [mw_ok1, Bool.and_eq_true, decide_eq_true_eq] at h
  exact h.1
theorem mw_ok1_cat {ls : List (Option Value)} {i j : Nat} {v : Value} (h : mw_ok1 ls i = true) (hj : j + 1 = i) (hv : ls[j]? = some (some v)) : ¬ v.category = 2 := by
  subst hj
  simp only [mw_ok1, Bool.and_eq_true, decide_eq_true_eq, hv] at h
  cases v <;> simp [Value.category] at h ⊢
theorem mw_LR_st1 {G : mw_G} {nL : Nat} {ls : List (Option Value)} {i : Nat} {v : Value} {lsR : Array Slot} (hl : ls.length = nL) (ok : mw_ok1 ls i = true) (h : lv_has lsR nL ((i, mw_tr G v) :: (mw_toL G 0 ls).filter (fun q => !(q.1 == i) && !(q.1 + 1 == i && q.2.category == 2)))) : mw_LR G nL (ls.set i (some v)) lsR := by
  refine ⟨by rw [List.length_set]; exact hl, h.1, h.2.1, fun q hq => ?_⟩
  obtain ⟨j, w, hj, rfl⟩ := (mw_toL_in G _ 0 q).mp hq
  refine h.2.2 _ ?_
  by_cases e : j = i
  · subst e
    rw [List.getElem?_set_self (mw_ok1_lt ok)] at hj
    cases hj
    simp
  · rw [List.getElem?_set_ne (Ne.symm e)] at hj
    refine List.mem_cons_of_mem _ (List.mem_filter.mpr ⟨(mw_toL_in G ls 0 _).mpr ⟨j, w, hj, rfl⟩, ?_⟩)
    have n1 : ¬ (0 + j = i) := by omega
    by_cases e2 : j + 1 = i
    · have := mw_ok1_cat ok e2 hj
      simp [e, mw_tr_cat, this]
    · have n2 : ¬ (0 + j + 1 = i) := by omega
      simp [e, e2]
theorem mw_LR_st2 {G : mw_G} {nL : Nat} {ls : List (Option Value)} {i : Nat} {v : Value} {lsR : Array Slot} (hl : ls.length = nL) (ok : mw_ok1 ls i = true) (h : lv_has lsR nL ((i, mw_tr G v) :: (mw_toL G 0 ls).filter (fun q => !(q.1 == i) && (!(q.1 == i + 1) && !(q.1 + 1 == i && q.2.category == 2))))) : mw_LR G nL ((ls.set i (some v)).set (i + 1) none) lsR := by
  refine ⟨by rw [List.length_set, List.length_set]; exact hl, h.1, h.2.1, fun q hq => ?_⟩
  obtain ⟨j, w, hj, rfl⟩ := (mw_toL_in G _ 0 q).mp hq
  refine h.2.2 _ ?_
  by_cases e1 : j = i + 1
  · subst e1
    by_cases hlt : i + 1 < (ls.set i (some v)).length
    · rw [List.getElem?_set_self hlt] at hj
      cases hj
    · rw [List.getElem?_eq_none (by rw [List.length_set]; omega)] at hj
      cases hj
  · rw [List.getElem?_set_ne (Ne.symm e1)] at hj
    by_cases e : j = i
    · subst e
      rw [List.getElem?_set_self (mw_ok1_lt ok)] at hj
      cases hj
      simp
    · rw [List.getElem?_set_ne (Ne.symm e)] at hj
      refine List.mem_cons_of_mem _ (List.mem_filter.mpr ⟨(mw_toL_in G ls 0 _).mpr ⟨j, w, hj, rfl⟩, ?_⟩)
      have n1 : ¬ (0 + j = i) := by omega
      have n3 : ¬ (0 + j = i + 1) := by omega
      by_cases e2 : j + 1 = i
      · have := mw_ok1_cat ok e2 hj
        simp [e, e1, mw_tr_cat, this]
      · have n2 : ¬ (0 + j + 1 = i) := by omega
        simp [e, e1, e2]
