/-! ===== THE ABSTRACT MACHINE IS THE MACHINE: its code against the bytes, its memory against the heap ===== -/
def mw_ens : MethodName := ⟨"java/lang/AbstractStringBuilder", "ensureCapacityInternal", "(I)V"⟩
def mw_ncp : MethodName := ⟨"java/lang/AbstractStringBuilder", "newCapacity", "(I)I"⟩
/-- private methods are selected whatever the receiver's class is -/
def mw_psa : MethodName := ⟨"java/lang/AbstractStringBuilder", "putStringAt", "(ILjava/lang/String;)V"⟩
def mw_inn : MethodName := ⟨"java/lang/AbstractStringBuilder", "inflateIfNeededFor", "(Ljava/lang/String;)V"⟩
def mw_sel : List Jvm.Cond := [Cond.selects "java/lang/StringBuilder" mw_ens mw_ens, Cond.selects "java/lang/StringBuilder" mw_ncp mw_ncp, Cond.selects "java/lang/StringBuilder" mw_psa mw_psa, Cond.selects "java/lang/StringBuilder" mw_inn mw_inn]
def mw_tbl : List Jvm.Cond := mw_sel ++ lw_tbl
/-- the tables in their pieces: place i is i % 1000 of piece i / 1000 -/
def mw_seg (k : Nat) : List Jvm.Cond := match k with
  | 0 => k2_sels lw_privs
  | 1 => tables_1_1
  | 2 => tables_1_2
  | 3 => tables_1_3
  | 4 => tables_1_4
  | 5 => tables_1_5
  | 6 => tables_1_6
  | 7 => tables_1_7
  | 8 => tables_1_8
  | 9 => tables_1_9
  | 12 => mw_sel
  | _ => []
def mw_get (i : Nat) : Option Jvm.Cond := (mw_seg (i / 1000))[i % 1000]?
theorem mw_get_in {i : Nat} {w : Jvm.Cond} (h : mw_get i = some w) : w ∈ mw_tbl := by
  have h1 : w ∈ mw_seg (i / 1000) := List.mem_of_getElem? h
  revert h1
  generalize i / 1000 = k
  unfold mw_tbl lw_tbl tables_1
  unfold mw_seg
  intro h1
  simp only [List.mem_append]
  split at h1
  · exact Or.inr (Or.inl h1)
  · exact Or.inr (Or.inr (Or.inl h1))
  · exact Or.inr (Or.inr (Or.inr (Or.inl h1)))
  · exact Or.inr (Or.inr (Or.inr (Or.inr (Or.inl h1))))
  · exact Or.inr (Or.inr (Or.inr (Or.inr (Or.inr (Or.inl h1)))))
  · exact Or.inr (Or.inr (Or.inr (Or.inr (Or.inr (Or.inr (Or.inl h1))))))
  · exact Or.inr (Or.inr (Or.inr (Or.inr (Or.inr (Or.inr (Or.inr (Or.inl h1)))))))
  · exact Or.inr (Or.inr (Or.inr (Or.inr (Or.inr (Or.inr (Or.inr (Or.inr (Or.inl h1))))))))
  · exact Or.inr (Or.inr (Or.inr (Or.inr (Or.inr (Or.inr (Or.inr (Or.inr (Or.inr (Or.inl h1)))))))))
  · exact Or.inr (Or.inr (Or.inr (Or.inr (Or.inr (Or.inr (Or.inr (Or.inr (Or.inr (Or.inr (h1))))))))))
  · exact Or.inl h1
  · cases h1
def mw_wd (i : Nat) (w : Jvm.Cond) : Bool := decide (mw_get i = some w) && goodWord w
def mw_T : List Jvm.Cond := mw_tbl.filter goodWord
theorem mw_wd_in {i : Nat} {w : Jvm.Cond} (h : mw_wd i w = true) : w ∈ mw_T := by
  simp only [mw_wd, Bool.and_eq_true, decide_eq_true_eq] at h
  exact List.mem_filter.mpr ⟨mw_get_in h.1, h.2⟩
theorem mw_T_good : ∀ w ∈ mw_T, goodWord w = true := fun w h => (List.mem_filter.mp h).2
/-- words that stay when the tables warm, though they aren't among the good ones -/
def mw_ng (w : Jvm.Cond) : Bool := match w with
  | .methodLinkNest _ _ _ _ => true
  | .fieldLinkNest _ _ _ _ _ _ => true
  | .declares _ => true
  | .castable _ _ => true
  | .arrayOver (.object _) => true
  | .arrayOver (.array _) => true
  | _ => false
def mw_wn (i : Nat) (w : Jvm.Cond) : Bool := decide (mw_get i = some w) && mw_ng w
def mw_N : List Jvm.Cond := mw_tbl.filter mw_ng
theorem mw_wn_in {i : Nat} {w : Jvm.Cond} (h : mw_wn i w = true) : w ∈ mw_N := by
  simp only [mw_wn, Bool.and_eq_true, decide_eq_true_eq] at h
  exact List.mem_filter.mpr ⟨mw_get_in h.1, h.2⟩
def mw_pl (ps : List Nat) (i : Nat) : Nat := ps.getD i 0
def mw_dec (bytes : ByteArray) (pc : Nat) (i : Instr) (n : Nat) : Bool := match decode bytes pc with
  | .ok (j, k) => decide (j = i) && decide (k = n)
  | _ => false
theorem mw_dec_eq {bytes : ByteArray} {pc : Nat} {i : Instr} {n : Nat} (h : mw_dec bytes pc i n = true) : decode bytes pc = .ok (i, n) := by
  unfold mw_dec at h
  split at h
  · rename_i j k e
    simp only [Bool.and_eq_true, decide_eq_true_eq] at h
    rw [e, h.1, h.2]
  · cases h
def mw_exs : List String := ["java/lang/RuntimeException", "java/lang/Exception"]
/-- a field's word: as it is declared; an inherited one under its heir's name; a nest's -/
def mw_glk (y : MethodName) (i r1 : Nat) (ps : List Nat) (f : String × String × String × Bool) : Bool := match ps with
  | [j, k] => decide (r1 = 16) && (mw_wd j (.fieldLink y.cls i "java/util/ArrayList" f.2.1 f.2.2.1) && mw_wd k (.sameField "java/util/ArrayList" f.1 f.2.1 f.2.2.1))
  | [j, _, _] => decide (r1 = 16) && mw_wn j (.fieldLinkNest y.cls i f.1 f.2.1 f.2.2.1 "java/util/ArrayList")
  | _ => mw_wd (mw_pl ps 0) (.fieldLink y.cls i f.1 f.2.1 f.2.2.1)
theorem mw_glk_of {y : MethodName} {i r1 : Nat} {ps : List Nat} {f : String × String × String × Bool} (h : mw_glk y i r1 ps f = true) : Jvm.Cond.fieldLink y.cls i f.1 f.2.1 f.2.2.1 ∈ mw_T ∨ (r1 = 16 ∧ Jvm.Cond.fieldLink y.cls i "java/util/ArrayList" f.2.1 f.2.2.1 ∈ mw_T ∧ Jvm.Cond.sameField "java/util/ArrayList" f.1 f.2.1 f.2.2.1 ∈ mw_T) ∨ (r1 = 16 ∧ Jvm.Cond.fieldLinkNest y.cls i f.1 f.2.1 f.2.2.1 "java/util/ArrayList" ∈ mw_N) := by
  unfold mw_glk at h
  split at h
  · simp only [Bool.and_eq_true, decide_eq_true_eq] at h
    exact Or.inr (Or.inl ⟨h.1, mw_wd_in h.2.1, mw_wd_in h.2.2⟩)
  · simp only [Bool.and_eq_true, decide_eq_true_eq] at h
    exact Or.inr (Or.inr ⟨h.1, mw_wn_in h.2⟩)
  · exact Or.inl (mw_wd_in h)
def mw_plk (y : MethodName) (i : Nat) (ps : List Nat) (f : String × String × String × Bool) : Bool := match ps with
  | [j, k] => mw_wd j (.fieldLink y.cls i "java/util/ArrayList" f.2.1 f.2.2.1) && mw_wd k (.sameField "java/util/ArrayList" f.1 f.2.1 f.2.2.1)
  | _ => mw_wd (mw_pl ps 0) (.fieldLink y.cls i f.1 f.2.1 f.2.2.1)
theorem mw_plk_of {y : MethodName} {i : Nat} {ps : List Nat} {f : String × String × String × Bool} (h : mw_plk y i ps f = true) : Jvm.Cond.fieldLink y.cls i f.1 f.2.1 f.2.2.1 ∈ mw_T ∨ (Jvm.Cond.fieldLink y.cls i "java/util/ArrayList" f.2.1 f.2.2.1 ∈ mw_T ∧ Jvm.Cond.sameField "java/util/ArrayList" f.1 f.2.1 f.2.2.1 ∈ mw_T) := by
  unfold mw_plk at h
  split at h
  · simp only [Bool.and_eq_true] at h
    exact Or.inr ⟨mw_wd_in h.1, mw_wd_in h.2⟩
  · exact Or.inl (mw_wd_in h)
/-- what an instruction's row in the abstract code says is so -/
def mw_chkI (y : MethodName) (bytes : ByteArray) (pc : Nat) (q : mw_I) : Bool := mw_dec bytes pc q.1 q.2.1 && (match q.1 with
  | .iconst n => decide (Int32.ofInt n = q.2.2.2.2.2 ∧ q.2.1 = 1)
  | .bipush n => decide ((Int8.ofInt n).toInt32 = q.2.2.2.2.2 ∧ q.2.1 = 2)
  | .sipush n => decide ((Int16.ofInt n).toInt32 = q.2.2.2.2.2 ∧ q.2.1 = 3)
  | .ldc i => (match q.2.2.1.1 with
    | 1 => decide (mw_oC[q.2.2.1.2.1]? = some (y.cls, i) ∧ q.2.1 = 2)
    | _ => mw_wd (mw_pl q.2.2.2.1 0) (.constant y.cls i q.2.2.2.2.2) && decide (q.2.1 = 2))
  | .ldc_w i => (match q.2.2.1.1 with
    | 1 => decide (mw_oC[q.2.2.1.2.1]? = some (y.cls, i) ∧ q.2.1 = 3)
    | _ => mw_wd (mw_pl q.2.2.2.1 0) (.constant y.cls i q.2.2.2.2.2) && decide (q.2.1 = 3))
  | .getstatic i => (match q.2.2.1.1 with
    | 0 => mw_wd (mw_pl q.2.2.2.1 0) (.fieldLink y.cls i "java/lang/String" "COMPACT_STRINGS" "Z") && decide (q.2.1 = 3)
    | 1 => mw_wd (mw_pl q.2.2.2.1 0) (.fieldLink y.cls i "java/lang/Integer" "DigitOnes" "[B") && decide (q.2.1 = 3)
    | 2 => mw_wd (mw_pl q.2.2.2.1 0) (.fieldLink y.cls i "java/lang/Integer" "DigitTens" "[B") && decide (q.2.1 = 3)
    | 4 => mw_wd (mw_pl q.2.2.2.1 0) (.fieldLink y.cls i "java/lang/Integer$IntegerCache" "high" "I") && decide (q.2.1 = 3)
    | 5 => mw_wd (mw_pl q.2.2.2.1 0) (.fieldLink y.cls i "java/lang/Integer$IntegerCache" "cache" "[Ljava/lang/Integer;") && decide (q.2.1 = 3)
    | 6 => mw_wd (mw_pl q.2.2.2.1 0) (.fieldLink y.cls i "java/util/ArrayList" "DEFAULTCAPACITY_EMPTY_ELEMENTDATA" "[Ljava/lang/Object;") && decide (q.2.1 = 3)
    | _ => mw_wd (mw_pl q.2.2.2.1 0) (.fieldLink y.cls i "jdk/internal/util/Preconditions" "SIOOBE_FORMATTER" "Ljava/util/function/BiFunction;") && decide (q.2.1 = 3))
  | .ldc2_w i => (match q.2.2.1.1 with
    | 1 => mw_wd (mw_pl q.2.2.2.1 0) (.constantDouble y.cls i 4609434218613702656) && decide (q.2.1 = 3)
    | _ => mw_wd (mw_pl q.2.2.2.1 0) (.constantLong y.cls i q.2.2.2.2.2.toInt64) && decide (q.2.1 = 3))
  | .ifnonnull off => decide ((pc : Int) + off = (q.2.2.1.1 : Int) ∧ q.2.1 = 3)
  | .if_acmp _ off => decide ((pc : Int) + off = (q.2.2.1.1 : Int) ∧ q.2.1 = 3)
  | .checkcast i => mw_wd (mw_pl q.2.2.2.1 0) (.classLink y.cls i "java/lang/Integer") && decide (q.2.1 = 3)
  | .invokeinterface i _ => decide (q.2.1 = 5 ∧ q.2.2.1.1 = 1 ∧ q.2.2.1.2.1 = 0 ∧ q.2.2.1.2.2 = 17 ∧ q.2.2.2.2.1.cls = "java/util/ArrayList$Itr" ∧ ((q.2.2.2.2.1.name = "hasNext" ∧ q.2.2.2.2.1.desc = "()Z") ∨ (q.2.2.2.2.1.name = "next" ∧ q.2.2.2.2.1.desc = "()Ljava/lang/Object;"))) && mw_wd (mw_pl q.2.2.2.1 0) (.methodLink y.cls i ⟨"java/util/Iterator", q.2.2.2.2.1.name, q.2.2.2.2.1.desc⟩) && mw_wd (mw_pl q.2.2.2.1 1) (.selects "java/util/ArrayList$Itr" ⟨"java/util/Iterator", q.2.2.2.2.1.name, q.2.2.2.2.1.desc⟩ q.2.2.2.2.1) && mw_wd (mw_pl q.2.2.2.1 2) (.instanceMethod q.2.2.2.2.1)
  | .iload_n n | .aload_n n | .fload_n n | .dload_n n | .istore_n n | .astore_n n | .fstore_n n | .dstore_n n => decide ((n : Nat) = q.2.2.1.1 ∧ q.2.1 = 1)
  | .iload n | .aload n | .fload n | .dload n | .istore n | .astore n | .fstore n | .dstore n => decide (n = q.2.2.1.1 ∧ q.2.1 = 2)
  | .iinc i n => decide (i = q.2.2.1.1 ∧ Int32.ofInt n = q.2.2.2.2.2 ∧ q.2.1 = 3)
  | .if_icmp _ off => decide ((pc : Int) + off = (q.2.2.1.1 : Int) ∧ q.2.1 = 3)
  | .ifCond _ off => decide ((pc : Int) + off = (q.2.2.1.1 : Int) ∧ q.2.1 = 3)
  | .goto off => decide ((pc : Int) + off = (q.2.2.1.1 : Int) ∧ q.2.1 = 3)
  | .tableswitch d lo hi offs => decide ((pc : Int) + d = (q.2.2.1.1 : Int) ∧ hi - lo + 1 = (offs.size : Int) ∧ q.2.2.2.1.length = offs.size) && (List.range offs.size).all (fun j => decide ((pc : Int) + offs.getD j 0 = (q.2.2.2.1.getD j 0 : Int)))
  | .getfield i => (match vwCl[q.2.2.1.1]? with
    | some r => decide (q.2.2.1.2.1 < r.2.2 ∧ mw_tg (r.2.1 q.2.2.1.2.1).2.2.1 = q.2.2.1.2.2 ∧ q.2.1 = 3) && mw_glk y i q.2.2.1.1 q.2.2.2.1 (r.2.1 q.2.2.1.2.1)
    | none => false)
  | .putfield i => (match vwCl[q.2.2.1.1]? with
    | some r => decide (q.2.2.1.2.1 < r.2.2 ∧ mw_tg (r.2.1 q.2.2.1.2.1).2.2.1 = q.2.2.1.2.2 ∧ q.2.1 = 3 ∧ ((r.2.1 q.2.2.1.2.1).2.2.2 = false ∨ (y.name = "<init>" ∧ (r.2.1 q.2.2.1.2.1).1 = y.cls))) && mw_plk y i q.2.2.2.1 (r.2.1 q.2.2.1.2.1)
    | none => false)
  | .new i => (match q.2.2.1.2.2 with
    | 0 => (match vwCl[q.2.2.1.1]? with
      | some r => decide (r.2.2 = q.2.2.1.2.1 ∧ q.2.1 = 3) && mw_wd (mw_pl q.2.2.2.1 0) (.classLink y.cls i r.1) && mw_wd (mw_pl q.2.2.2.1 1) (.instantiable r.1 r.2.2) && mw_wd (mw_pl q.2.2.2.1 2) (.initialized r.1)
      | none => false)
    | _ => mw_wd (mw_pl q.2.2.2.1 0) (.classLink y.cls i (mw_exn q.2.2.1.1)) && mw_wd (mw_pl q.2.2.2.1 1) (.initialized (mw_exn q.2.2.1.1)) && mw_dec bytes (pc + 3) .dup 1 && mw_dec bytes (pc + 4) (.invokespecial q.2.2.1.2.1) 3 && mw_dec bytes (pc + 7) .athrow 1 && decide (q.2.1 = 3 ∧ q.2.2.1.1 < 6) && (vx_at0 y.cls q.2.2.1.2.1 (mw_exn q.2.2.1.1) mw_exs).all (fun w => (goodWord w || mw_ng w) && decide (w ∈ mw_tbl) && vx_ot w))
  | .newarray t => mw_wd (mw_pl q.2.2.2.1 0) (.arrayClass (newarray.typeOf t)) && decide (q.2.1 = 2 ∧ ¬ mw_akind t = 19)
  | .anewarray i => (match q.2.2.1.1 with
    | 1 => mw_wd (mw_pl q.2.2.2.1 0) (.classLink y.cls i "java/lang/Object") && mw_wn (mw_pl q.2.2.2.1 1) (.arrayOver (.object "java/lang/Object")) && decide (q.2.1 = 3)
    | _ => mw_wd (mw_pl q.2.2.2.1 0) (.classLink y.cls i "MoonFerryOffice$State") && mw_wn (mw_pl q.2.2.2.1 1) (.arrayOver (.object "MoonFerryOffice$State")) && decide (q.2.1 = 3))
  | .invokevirtual i => (match q.2.2.1.2.1 with
    | 1 => decide (q.2.1 = 3 ∧ q.2.2.1.1 = 1 ∧ q.2.2.1.2.2 = 1 ∧ q.2.2.2.2.1 = ⟨"java/lang/StringBuilder", "length", "()I"⟩) && mw_wd (mw_pl q.2.2.2.1 0) (.methodLink y.cls i ⟨"java/lang/AbstractStringBuilder", "length", "()I"⟩) && mw_wd (mw_pl q.2.2.2.1 1) (.sameMethod "java/lang/AbstractStringBuilder" "java/lang/AbstractStringBuilder" "length" "()I") && mw_wd (mw_pl q.2.2.2.1 2) (.instanceMethod ⟨"java/lang/AbstractStringBuilder", "length", "()I"⟩) && mw_wd (mw_pl q.2.2.2.1 3) (.selects "java/lang/StringBuilder" ⟨"java/lang/AbstractStringBuilder", "length", "()I"⟩ ⟨"java/lang/StringBuilder", "length", "()I"⟩) && mw_wd (mw_pl q.2.2.2.1 4) (.instanceMethod ⟨"java/lang/StringBuilder", "length", "()I"⟩) && mw_wd (mw_pl q.2.2.2.1 5) (.code ⟨"java/lang/AbstractStringBuilder", "length", "()I"⟩ cJ5_length_8abf5 1 (some .int))
    | _ => decide (q.2.2.1.2.1 = 0 ∧ q.2.1 = 3 ∧ 0 < q.2.2.1.1 ∧ (parseMethodDescriptor q.2.2.2.2.1.desc).map (fun d => d.parameters.length) = some (q.2.2.1.1 - 1)) && mw_wd (mw_pl q.2.2.2.1 0) (.methodLink y.cls i q.2.2.2.2.1) && mw_wd (mw_pl q.2.2.2.1 1) (.instanceMethod q.2.2.2.2.1) && (match vwCl[q.2.2.1.2.2]? with
      | some r => mw_wd (mw_pl q.2.2.2.1 2) (.selects r.1 q.2.2.2.2.1 q.2.2.2.2.1)
      | none => false))
  | .multianewarray i n => decide (n = 2 ∧ q.2.1 = 4) && mw_wd (mw_pl q.2.2.2.1 0) (.classLink y.cls i "[[I") && mw_wn (mw_pl q.2.2.2.1 1) (.arrayOver (.array .int)) && mw_wd (mw_pl q.2.2.2.1 2) (.arrayClass .int)
  | .invokestatic i => (match q.2.2.1.2.1 with
    | 9 => decide (q.2.1 = 3) && mw_wd (mw_pl q.2.2.2.1 0) (.methodLink y.cls i arraycopyName) && mw_wd (mw_pl q.2.2.2.1 1) (.native arraycopyName) && mw_wd (mw_pl q.2.2.2.1 2) (.static arraycopyName) && mw_wd (mw_pl q.2.2.2.1 3) (.initialized "java/lang/System")
    | k9 => decide (q.2.1 = 3 ∧ (parseMethodDescriptor q.2.2.2.2.1.desc).map (fun d => d.parameters.length) = some q.2.2.1.1) && mw_wd (mw_pl q.2.2.2.1 1) (.static q.2.2.2.2.1) && (match k9 with
      | 1 => mw_wd (mw_pl q.2.2.2.1 0) (.methodLink y.cls i q.2.2.2.2.1)
      | 5 => mw_wd (mw_pl q.2.2.2.1 0) (.methodLink y.cls i q.2.2.2.2.1)
      | 4 => mw_wn (mw_pl q.2.2.2.1 0) (.methodLinkNest y.cls i q.2.2.2.2.1 "MoonFerryOffice")
      | _ => false))
  | .invokespecial i => (match q.2.2.1.2.1 with
    | 8 => decide (q.2.1 = 3) && mw_wd (mw_pl q.2.2.2.1 0) (.methodLink y.cls i Lib.objectInit) && mw_wd (mw_pl q.2.2.2.1 1) (.instanceMethod Lib.objectInit) && mw_wd (mw_pl q.2.2.2.1 2) (.code Lib.objectInit ⟨#[0xb1]⟩ 1 none)
    | 6 => decide (q.2.1 = 3 ∧ 0 < q.2.2.1.1 ∧ q.2.2.2.2.1.name ≠ "<init>" ∧ (vwCl[q.2.2.1.2.2]?).isSome = true ∧ (parseMethodDescriptor q.2.2.2.2.1.desc).map (fun d => d.parameters.length) = some (q.2.2.1.1 - 1)) && mw_wd (mw_pl q.2.2.2.1 0) (.methodLink y.cls i q.2.2.2.2.1) && mw_wd (mw_pl q.2.2.2.1 1) (.instanceMethod q.2.2.2.2.1) && mw_wd (mw_pl q.2.2.2.1 2) (.sameMethod q.2.2.2.2.1.cls q.2.2.2.2.1.cls q.2.2.2.2.1.name q.2.2.2.2.1.desc) && mw_wd (mw_pl q.2.2.2.1 3) (.superclass y.cls q.2.2.2.2.1.cls)
    | k9 => decide (q.2.1 = 3 ∧ 0 < q.2.2.1.1 ∧ q.2.2.2.2.1.name = "<init>" ∧ (parseMethodDescriptor q.2.2.2.2.1.desc).map (fun d => d.parameters.length) = some (q.2.2.1.1 - 1)) && mw_wd (mw_pl q.2.2.2.1 1) (.instanceMethod q.2.2.2.2.1) && (match k9 with
      | 2 => mw_wd (mw_pl q.2.2.2.1 0) (.methodLink y.cls i q.2.2.2.2.1)
      | 3 => mw_wn (mw_pl q.2.2.2.1 0) (.methodLinkNest y.cls i q.2.2.2.2.1 "MoonFerryOffice")
      | _ => false))
  | _ => decide (q.2.1 = 1))
def mw_chk (cd : mw_CD) : Bool := cd.2.2.2.2.1.all (fun l => l.all (fun z => mw_chkI cd.1 cd.2.1 z.1 z.2))
theorem mw_find_in {l : List (Nat × mw_I)} {pc : Nat} {q : mw_I} (h : mw_find l pc = some q) : (pc, q) ∈ l := by
  induction l with
  | nil => cases h
  | cons a r ih =>
    unfold mw_find at h
    by_cases e : a.1 = pc
    · rw [if_pos e] at h
      cases h
      subst e
      exact List.mem_cons_self
    · rw [if_neg e] at h
      exact List.mem_cons_of_mem _ (ih h)
theorem mw_lk_chk {cd : mw_CD} {pc : Nat} {q : mw_I} (hc : mw_chk cd = true) (h : mw_lk cd pc = some q) : mw_chkI cd.1 cd.2.1 pc q = true := by
  unfold mw_lk at h
  split at h
  · rename_i l e
    unfold mw_chk at hc
    rw [List.all_eq_true] at hc
    have h1 := hc l (List.mem_of_getElem? e)
    rw [List.all_eq_true] at h1
    exact h1 (pc, q) (mw_find_in h)
  · cases h
/-- a handler: it keeps what it caught in a local, and answers a constant -/
def mw_icon (bytes : ByteArray) (pc k : Nat) : Bool := match decode bytes pc with
  | .ok (.iconst n, 1) => decide (Int32.ofInt n = Int32.ofNat k) && mw_dec bytes (pc + 1) .ireturn 1
  | .ok (.bipush n, 2) => decide ((Int8.ofInt n).toInt32 = Int32.ofNat k) && mw_dec bytes (pc + 2) .ireturn 1
  | _ => false
def mw_hcode (bytes : ByteArray) (hpc nL k : Nat) : Bool := match decode bytes hpc with
  | .ok (.astore_n j, 1) => decide ((j : Nat) < nL) && mw_icon bytes (hpc + 1) k
  | .ok (.astore j, 2) => decide (j < nL) && mw_icon bytes (hpc + 2) k
  | _ => false
def mw_hok1 (cd : mw_CD) (t : Nat × Nat × Nat × Nat) (h : Nat × Nat × Nat × Nat × Nat) : Bool := decide (t.1 = h.1 ∧ t.2.1 = h.2.1 ∧ t.2.2.1 = h.2.2.2.2 ∧ ¬ t.2.2.2 = 0 ∧ h.2.2.1 < 5 ∧ cd.2.2.2.1 = some .int) && (decide (Jvm.Cond.classLink cd.1.cls t.2.2.2 (mw_exn h.2.2.1) ∈ mw_tbl) && goodWord (Jvm.Cond.classLink cd.1.cls t.2.2.2 (mw_exn h.2.2.1))) && decide (Jvm.Cond.castable (mw_exn h.2.2.1) (mw_exn h.2.2.1) ∈ mw_tbl) && mw_hcode cd.2.1 h.2.2.2.2 cd.2.2.1 h.2.2.2.1
def mw_hchk (cd : mw_CD) : List (Nat × Nat × Nat × Nat) → List (Nat × Nat × Nat × Nat × Nat) → Bool
  | [], [] => true
  | t :: ts, h :: hs => mw_hok1 cd t h && mw_hchk cd ts hs
  | _, _ => false
def mw_cw (cd : mw_CD) (tb : List (Nat × Nat × Nat × Nat)) : Jvm.Cond := match tb with
  | [] => .code cd.1 cd.2.1 cd.2.2.1 cd.2.2.2.1
  | t :: ts => .codeWith cd.1 cd.2.1 cd.2.2.1 cd.2.2.2.1 (t :: ts)
/-- a method's own facts -/
def mw_GM (cd : mw_CD) : Prop := plainFor cd.1 = true ∧ cd.2.2.1 ≤ 40 ∧ Jvm.Cond.initialized cd.1.cls ∈ mw_T ∧ (cd.1.cls ≠ "java/lang/invoke/MethodHandle" ∧ cd.1.cls ≠ "java/lang/invoke/VarHandle") ∧ (cd.1.name = "<init>" → cd.2.2.2.1 = none) ∧ ∃ tb, mw_hchk cd tb cd.2.2.2.2.2 = true ∧ mw_cw cd tb ∈ mw_T
def mw_Good (cd : mw_CD) : Prop := mw_chk cd = true ∧ mw_GM cd
