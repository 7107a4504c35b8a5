/-! the start: what the Statement gives is what the machine wants -/
def fz_T : List Jvm.Cond := flatC (Jvm.Cond.and given_1 narrow_1)
def fz_g (i : Nat) (w : Jvm.Cond) : Bool := decide (fz_T[i]? = some w)
def fz_x : List Nat := [370, 382, 400, 415, 430, 442, 455, 465, 475, 487, 600, 625, 643, 655, 660, 665, 678, 691, 703, 707, 718, 730, 743, 748, 790, 811, 836, 868, 900, 908]
def fz_c : List (List Nat) := [[0, 262, 286, 310, 334], [239, 0, 287, 311, 335], [240, 263, 0, 312, 336], [241, 264, 288, 0, 337], [242, 265, 289, 313, 0], [247, 271, 295, 319, 343]]
def fz_t (i : Nat) : Jvm.Term := .string (mw_oC.getD i ("", 0)).1 (mw_oC.getD i ("", 0)).2
def fz_v (i : Nat) : Jvm.Term := .field (fz_t i) "java/lang/String" "value" "[B"
def fz_r (i : Nat) : Nat := [5168, 5169, 5170, 5171, 5172, 5173, 5174, 5175, 5176, 5177, 8203, 8204, 8205, 8206, 8207, 8208, 8209, 8210, 8211, 8212, 8213, 8214, 8215, 8216, 8217, 8218, 8219, 8220, 8221, 8222].getD i 0
def fz_o : Jvm.Term := .static "java/lang/Integer" "DigitOnes" "[B"
def fz_n : Jvm.Term := .static "java/lang/Integer" "DigitTens" "[B"
def fz_e : Jvm.Term := .static "java/util/ArrayList" "DEFAULTCAPACITY_EMPTY_ELEMENTDATA" "[Ljava/lang/Object;"
def fz_k : Jvm.Term := .static "java/lang/Integer$IntegerCache" "cache" "[Ljava/lang/Integer;"
def fz_p (i : Nat) : Bool := fz_g (fz_x.getD i 0) (.exactly (fz_t i) "java/lang/String") && fz_g (fz_x.getD i 0 + 1) (.eq (.field (fz_t i) "java/lang/String" "coder" "B") (.int 0)) && fz_g (fz_x.getD i 0 + 2) (.arrayOf (fz_v i) .byte) && fz_g (fz_x.getD i 0 + 3) (.eq (.length (fz_v i)) (.int (Int32.ofNat (mw_oL.getD i 0)))) && ((List.range (mw_oL.getD i 0)).all fun j => fz_g (fz_x.getD i 0 + 4 + j) (.eq (.elem (fz_v i) (.int (Int32.ofNat j))) (.int ((mw_oS.getD i []).getD j 0)))) && decide (mw_oL.getD i 0 < 100) && decide (mw_get (fz_r i) = some (.stringRef (mw_oC.getD i ("", 0)).1 (mw_oC.getD i ("", 0)).2 (mw_oT.getD i "")))
set_option maxRecDepth 100000 in
theorem fz_1 : ((List.range 30).all fun i => fz_p i) = true := by decide +kernel
set_option maxRecDepth 100000 in
theorem fz_2 : ((List.range 100).all fun j => fz_g (14 + j) (.eq (.elem fz_o (.int (Int32.ofNat j))) (.int (mw_ob 1000201 j))) && fz_g (117 + j) (.eq (.elem fz_n (.int (Int32.ofNat j))) (.int (mw_ob 1000202 j)))) = true := by decide +kernel
theorem fz_3 : fz_g 4 (.eq (.static "java/lang/String" "COMPACT_STRINGS" "Z") (.int 1)) = true := by decide +kernel
theorem fz_4 : fz_g 5 (.isRef (.static "java/lang/Throwable" "UNASSIGNED_STACK" "[Ljava/lang/StackTraceElement;")) = true := by decide +kernel
theorem fz_5 : fz_g 6 (.isRef (.static "java/lang/Throwable" "SUPPRESSED_SENTINEL" "Ljava/util/List;")) = true := by decide +kernel
theorem fz_6 : fz_g 7 (.isRef (.static "jdk/internal/util/Preconditions" "SIOOBE_FORMATTER" "Ljava/util/function/BiFunction;")) = true := by decide +kernel
theorem fz_7 : fz_g 12 (.arrayOf fz_o .byte) = true := by decide +kernel
theorem fz_8 : fz_g 13 (.eq (.length fz_o) (.int (Int32.ofNat 100))) = true := by decide +kernel
theorem fz_9 : fz_g 115 (.arrayOf fz_n .byte) = true := by decide +kernel
theorem fz_10 : fz_g 116 (.eq (.length fz_n) (.int (Int32.ofNat 100))) = true := by decide +kernel
theorem fz_12 : fz_g 218 (.arrayOf fz_e (.object "java/lang/Object")) = true := by decide +kernel
theorem fz_13 : fz_g 220 (.eq (.length fz_e) (.int (Int32.ofNat 0))) = true := by decide +kernel
theorem fz_14 : fz_g 221 (.eq (.static "java/lang/Integer$IntegerCache" "high" "I") (.int 127)) = true := by decide +kernel
theorem fz_15 : fz_g 223 (.arrayOf fz_k (.object "java/lang/Integer")) = true := by decide +kernel
theorem fz_16 : fz_g 224 (.eq (.length fz_k) (.int (Int32.ofNat 256))) = true := by decide +kernel
theorem fz_17 : fz_g 225 (.all fz_k (.and (.exactly (.elem fz_k (.index 0)) "java/lang/Integer") (.eq (.field (.elem fz_k (.index 0)) "java/lang/Integer" "value" "I") (.sub (.index 0) (.int 128))))) = true := by decide +kernel
set_option maxRecDepth 100000 in
theorem fz_11 : ((List.range 6).all fun e => (List.range 5).all fun f => Nat.beq e f || fz_g ((fz_c.getD e []).getD f 0) (.not (.castable (mw_exn e) (mw_exn f)))) = true := by decide +kernel
theorem fz_w1 : mw_get 2234 = some (.laysStatic "java/lang/String" "COMPACT_STRINGS" "Z") := by decide +kernel
theorem fz_w2 : mw_get 1015 = some (.initialized "java/lang/String") := by decide +kernel
theorem fz_w3 : mw_get 3092 = some (.laysStatic "java/lang/Throwable" "UNASSIGNED_STACK" "[Ljava/lang/StackTraceElement;") := by decide +kernel
theorem fz_w4 : mw_get 3094 = some (.laysStatic "java/lang/Throwable" "SUPPRESSED_SENTINEL" "Ljava/util/List;") := by decide +kernel
theorem fz_w5 : mw_get 1017 = some (.initialized "java/lang/Throwable") := by decide +kernel
theorem fz_w6 : mw_get 5206 = some (.laysStatic "jdk/internal/util/Preconditions" "SIOOBE_FORMATTER" "Ljava/util/function/BiFunction;") := by decide +kernel
theorem fz_w7 : mw_get 1038 = some (.initialized "jdk/internal/util/Preconditions") := by decide +kernel
theorem fz_w8 : mw_get 6155 = some (.laysStatic "java/lang/Integer" "DigitOnes" "[B") := by decide +kernel
theorem fz_w9 : mw_get 6157 = some (.laysStatic "java/lang/Integer" "DigitTens" "[B") := by decide +kernel
theorem fz_w10 : mw_get 1033 = some (.initialized "java/lang/Integer") := by decide +kernel
theorem fz_w11 : mw_get 8025 = some (.laysStatic "java/util/ArrayList" "DEFAULTCAPACITY_EMPTY_ELEMENTDATA" "[Ljava/lang/Object;") := by decide +kernel
theorem fz_w12 : mw_get 1031 = some (.initialized "java/util/ArrayList") := by decide +kernel
theorem fz_w13 : mw_get 8045 = some (.laysStatic "java/lang/Integer$IntegerCache" "high" "I") := by decide +kernel
theorem fz_w14 : mw_get 8047 = some (.laysStatic "java/lang/Integer$IntegerCache" "cache" "[Ljava/lang/Integer;") := by decide +kernel
theorem fz_w15 : mw_get 1034 = some (.initialized "java/lang/Integer$IntegerCache") := by decide +kernel
theorem fz_a0 : mw_get 1107 = some (.arrayClass .int) := by decide +kernel
theorem fz_a1 : mw_get 2223 = some (.arrayClass .char) := by decide +kernel
theorem fz_a4 : mw_get 3016 = some (.arrayClass .byte) := by decide +kernel
theorem fz_a5 : mw_get 2188 = some (.arrayOver (.object "MoonFerryOffice$State")) := by decide +kernel
theorem fz_a6 : mw_get 2043 = some (.arrayOver (.array .int)) := by decide +kernel
theorem fz_a7 : mw_get 8114 = some (.arrayOver (.object "java/lang/Object")) := by decide +kernel
theorem fz_ih1 : mw_get 8144 = some (.declares ⟨"java/util/Iterator", "hasNext", "()Z"⟩) := by decide +kernel
theorem fz_ih2 : mw_get 8143 = some (.interfaceMethod "java/util/Iterator" "java/util/Iterator" "hasNext" "()Z") := by decide +kernel
theorem fz_ih3 : mw_get 8149 = some (.publicMethod ⟨"java/util/ArrayList$Itr", "hasNext", "()Z"⟩) := by decide +kernel
theorem fz_ih4 : mw_get 8147 = some (.unhidden "java/util/ArrayList$Itr" "hasNext" "()Z") := by decide +kernel
theorem fz_in1 : mw_get 8154 = some (.declares ⟨"java/util/Iterator", "next", "()Ljava/lang/Object;"⟩) := by decide +kernel
theorem fz_in2 : mw_get 8153 = some (.interfaceMethod "java/util/Iterator" "java/util/Iterator" "next" "()Ljava/lang/Object;") := by decide +kernel
theorem fz_in3 : mw_get 8158 = some (.publicMethod ⟨"java/util/ArrayList$Itr", "next", "()Ljava/lang/Object;"⟩) := by decide +kernel
theorem fz_in4 : mw_get 8156 = some (.unhidden "java/util/ArrayList$Itr" "next" "()Ljava/lang/Object;") := by decide +kernel
theorem fz_i5 : mw_get 8145 = some (.castable "java/util/ArrayList$Itr" "java/util/Iterator") := by decide +kernel
/-- a private method, its receiver of a class below -/
theorem fz_sel {y z : MethodName} {s : State} {args : Array Value} (hy : y.cls ≠ "java/lang/invoke/MethodHandle" ∧ y.cls ≠ "java/lang/invoke/VarHandle") (h0 : (Cond.selects "java/lang/StringBuilder" z z).before args s = true) (hcls : z.cls = y.cls)
    (hpriv : (Cond.privateMethod y).before args s = true) (hinst : (Cond.instanceMethod y).before args s = true) : (Cond.selects "java/lang/StringBuilder" y y).before args s = true := by
  obtain ⟨mk, methM, hnamed, hmethM, -, -⟩ := Cond.instanceMethod_spec hinst
  have hfound : s.methodFound? y.cls y.name y.desc = some mk := State.methodFound?_of_named hnamed hy
  have hsel : ∀ c : ClassId, selectMethod {} s.vm c mk = .method mk := fun c => selectMethod_private hmethM (Cond.privateMethod_at hpriv mk methM hnamed hmethM)
  simp only [Cond.before, Cond.holds, Cond.value] at h0
  cases hc : s.vm.findClass "java/lang/StringBuilder" with
  | none => simp [hc] at h0
  | some c =>
    cases hf : s.methodFound? z.cls z.name z.desc with
    | none => simp [hc, hf] at h0
    | some r =>
      cases hz : s.methodNamed? z with
      | none => simp [hc, hf, hz] at h0
      | some m =>
        have hm : m.cls = mk.cls := Option.some.inj ((findClass_of_methodNamed hz).symm.trans (by rw [hcls]; exact findClass_of_methodNamed hnamed))
        have hany : (s.vm.classes[mk.cls]?).any (fun k => !k.isInterface) = true := by
          rw [← hm]
          cases hs : selectMethod {} s.vm c r with
          | method m' => simp [hc, hf, hz, hs] at h0 ⊢; exact h0.2
          | _ => simp [hc, hf, hz, hs] at h0
        simp only [Cond.before, Cond.holds, Cond.value, hc, hfound, hnamed, hsel, hany]
        simp
theorem fz_s1 : mw_get 6089 = some (.selects "java/lang/StringBuilder" ⟨"java/lang/AbstractStringBuilder", "isLatin1", "()Z"⟩ ⟨"java/lang/AbstractStringBuilder", "isLatin1", "()Z"⟩) := by decide +kernel
theorem fz_s2 : mw_get 6058 = some (.privateMethod mw_ens) := by decide +kernel
theorem fz_s3 : mw_get 6059 = some (.instanceMethod mw_ens) := by decide +kernel
theorem fz_s4 : mw_get 6062 = some (.privateMethod mw_ncp) := by decide +kernel
theorem fz_s5 : mw_get 6063 = some (.instanceMethod mw_ncp) := by decide +kernel
theorem fz_s6 : mw_get 6108 = some (.privateMethod mw_psa) := by decide +kernel
theorem fz_s7 : mw_get 6109 = some (.instanceMethod mw_psa) := by decide +kernel
theorem fz_s8 : mw_get 6112 = some (.privateMethod mw_inn) := by decide +kernel
theorem fz_s9 : mw_get 6113 = some (.instanceMethod mw_inn) := by decide +kernel
theorem fz_lw {i : Nat} {w : Jvm.Cond} (h : mw_get i = some w) (hi : ¬ i / 1000 = 12) : w ∈ lw_tbl := by
  have h1 : w ∈ mw_seg (i / 1000) := List.mem_of_getElem? h
  revert h1 hi
  generalize i / 1000 = k
  unfold lw_tbl tables_1 mw_seg
  intro hi h1
  simp only [List.mem_append]
  split at h1
  · exact Or.inl h1
  · exact Or.inr (Or.inl h1)
  · exact Or.inr (Or.inr (Or.inl h1))
  · exact Or.inr (Or.inr (Or.inr (Or.inl h1)))
  · exact Or.inr (Or.inr (Or.inr (Or.inr (Or.inl h1))))
  · exact Or.inr (Or.inr (Or.inr (Or.inr (Or.inr (Or.inl h1)))))
  · exact Or.inr (Or.inr (Or.inr (Or.inr (Or.inr (Or.inr (Or.inl h1))))))
  · exact Or.inr (Or.inr (Or.inr (Or.inr (Or.inr (Or.inr (Or.inr (Or.inl h1)))))))
  · exact Or.inr (Or.inr (Or.inr (Or.inr (Or.inr (Or.inr (Or.inr (Or.inr (Or.inl h1))))))))
  · exact Or.inr (Or.inr (Or.inr (Or.inr (Or.inr (Or.inr (Or.inr (Or.inr (Or.inr h1))))))))
  · exact absurd rfl hi
  · cases h1
theorem fz_all {args : Array Value} {s : State} (hts : ∀ w ∈ lw_tbl, w.before args s = true) : ∀ w ∈ mw_tbl, w.before args s = true := by
  have hg : ∀ (i : Nat) (w : Jvm.Cond), mw_get i = some w → ¬ i / 1000 = 12 → w.before args s = true := fun i w h hi => hts w (fz_lw h hi)
  intro w hw
  rcases List.mem_append.mp hw with h | h
  · unfold mw_sel at h
    simp only [List.mem_cons, List.not_mem_nil, or_false] at h
    rcases h with rfl | rfl | rfl | rfl
    · exact fz_sel ⟨by decide +kernel, by decide +kernel⟩ (hg _ _ fz_s1 (by decide)) rfl (hg _ _ fz_s2 (by decide)) (hg _ _ fz_s3 (by decide))
    · exact fz_sel ⟨by decide +kernel, by decide +kernel⟩ (hg _ _ fz_s1 (by decide)) rfl (hg _ _ fz_s4 (by decide)) (hg _ _ fz_s5 (by decide))
    · exact fz_sel ⟨by decide +kernel, by decide +kernel⟩ (hg _ _ fz_s1 (by decide)) rfl (hg _ _ fz_s6 (by decide)) (hg _ _ fz_s7 (by decide))
    · exact fz_sel ⟨by decide +kernel, by decide +kernel⟩ (hg _ _ fz_s1 (by decide)) rfl (hg _ _ fz_s8 (by decide)) (hg _ _ fz_s9 (by decide))
  · exact hts w h
theorem fz_ins : ∀ (c : Nat) (r : vw_C), vwCl[c]? = some r → Jvm.Cond.instantiable r.1 r.2.2 ∈ mw_tbl := by
  have h : (vwCl.all fun r => decide (Jvm.Cond.instantiable r.1 r.2.2 ∈ mw_tbl)) = true := by decide +kernel
  intro c r hc
  rw [List.all_eq_true] at h
  exact of_decide_eq_true (h r (List.mem_of_getElem? hc))
theorem fz_prim {args : Array Value} {s : State} {ty : FieldType} (h : (Cond.arrayClass ty).before args s = true) : ∃ cA : ClassId, ArrOfT s cA ty ∧ s.vm.findClass ("[" ++ ty.toString) = some cA := by
  obtain ⟨c, k, comp, h1, h2, h3⟩ := Cond.arrayClass_spec h
  exact ⟨c, fun n z => ⟨(fun k h => by cases h), k, h2, comp, h3⟩, h1⟩
theorem fz_K {args : Array Value} {s : State} (hts : ∀ w ∈ mw_tbl, w.before args s = true) : ∃ (D : va_G) (ar : Nat → ClassId), va_K D vwCl ((List.range 8).map (fun j => (ar j, mw_aty j))) s := by
  have hg : ∀ (i : Nat) (w : Jvm.Cond), mw_get i = some w → w.before args s = true := fun i w h => hts w (mw_get_in h)
  have h0 : ∀ c : Nat, ∃ x : ClassId × (Nat → Nat), ∀ q : vw_C, vwCl[c]? = some q → u_Kn s q.1 q.2.1 q.2.2 x.1 x.2 := by
    intro c
    by_cases hc : c < vwCl.length
    · have e : vwCl[c]? = some vwCl[c] := List.getElem?_eq_getElem hc
      obtain ⟨cC, iS, h⟩ := u_known (ws := mw_T) (s := s) (args := args) (C := vwCl[c].1) (T := vwCl[c].2.1) (N := vwCl[c].2.2) (n := vwCl[c].2.2) (fun w hw => hts w (List.mem_filter.mp hw).1) (mw_cls_ws c _ e) (hts _ (fz_ins c _ e))
      refine ⟨(cC, iS), fun q hq => ?_⟩
      rw [e] at hq
      cases hq
      exact h
    · obtain ⟨cA, -, -⟩ := fz_prim (hg _ _ fz_a0)
      exact ⟨(cA, fun _ => 0), fun q hq => absurd (List.getElem?_eq_some_iff.mp hq).1 hc⟩
  have h1 : ∀ j : Nat, ∃ cA : ClassId, j < 8 → ArrOfT s cA (mw_aty j) ∧ va_RA s cA (mw_aty j) := by
    intro j
    match j with
    | 0 =>
      obtain ⟨cA, a1, a2⟩ := fz_prim (hg _ _ fz_a0)
      exact ⟨cA, fun _ => ⟨a1, a2⟩⟩
    | 1 =>
      obtain ⟨cA, a1, a2⟩ := fz_prim (hg _ _ fz_a1)
      exact ⟨cA, fun _ => ⟨a1, a2⟩⟩
    | 2 =>
      obtain ⟨cA, a1, a2⟩ := fz_prim (hg _ _ fz_a0)
      exact ⟨cA, fun _ => ⟨a1, a2⟩⟩
    | 3 =>
      obtain ⟨cA, a1, a2⟩ := fz_prim (hg _ _ fz_a0)
      exact ⟨cA, fun _ => ⟨a1, a2⟩⟩
    | 4 =>
      obtain ⟨cA, a1, a2⟩ := fz_prim (hg _ _ fz_a4)
      exact ⟨cA, fun _ => ⟨a1, a2⟩⟩
    | 5 =>
      obtain ⟨comp, c, k, hcomp, -, hk, hkind, hname⟩ := Cond.arrayOver_spec (hg _ _ fz_a5)
      exact ⟨c, fun _ => ⟨fun n z => ⟨(fun k h => by cases h), k, hk, comp, hkind⟩, k, comp, hk, hkind, hcomp, hname⟩⟩
    | 7 =>
      obtain ⟨comp, c, k, hcomp, -, hk, hkind, hname⟩ := Cond.arrayOver_spec (hg _ _ fz_a7)
      exact ⟨c, fun _ => ⟨fun n z => ⟨(fun k h => by cases h), k, hk, comp, hkind⟩, k, comp, hk, hkind, hcomp, hname⟩⟩
    | 6 =>
      obtain ⟨comp, c, k, hcomp, hk, hkind, hname⟩ := Cond.arrayOver_specA (hg _ _ fz_a6)
      exact ⟨c, fun _ => ⟨fun n z => ⟨(fun k h => by cases h), k, hk, comp, hkind⟩, hname⟩⟩
    | j + 8 =>
      obtain ⟨cA, -, -⟩ := fz_prim (hg _ _ fz_a0)
      exact ⟨cA, fun h => absurd h (by omega)⟩
  obtain ⟨d, hd⟩ := Classical.axiomOfChoice h0
  obtain ⟨ar, har⟩ := Classical.axiomOfChoice h1
  refine ⟨(fun c => (d c).1, fun c => (d c).2), ar, fun c q hq => hd c q hq, fun k q hq => ?_⟩
  rw [List.getElem?_map] at hq
  by_cases hk : k < 8
  · rw [List.getElem?_range hk] at hq
    cases hq
    exact har k hk
  · rw [List.getElem?_eq_none (by rw [List.length_range]; omega)] at hq
    cases hq
theorem fz_nw {w : Jvm.Cond} {args : Array Value} {s : State} (h : mw_ng w = true) (h1 : w.before args s = true) : va_Nw w s := by
  unfold mw_ng at h
  split at h <;> first | exact va_Nw.of rfl h1 | exact h1 | cases h
/-- a field has one value; a row one length -/
theorem fz_of {o n d : String} {v v' : Value} {t : Nat} {A : Nat → Prop} {U : State} {H : Heap} (h : va_OF o n d v t A U H) (h' : va_OF o n d v' t A U H) : v = v' := by
  obtain ⟨cf, k, i, f, c, a1, a2, a3, a4, a5, a6⟩ := h
  obtain ⟨cf', k', i', f', c', b1, b2, b3, b4, b5, b6⟩ := h'
  cases a1.symm.trans b1
  cases a3.symm.trans b3
  exact Option.some.inj (a5.symm.trans b5)
theorem fz_tt {ty : FieldType} {t N N' : Nat} {f f' : Nat → Value} {A : Nat → Prop} {U : State} {H : Heap} (h : va_T ty t N f A U H) (h' : va_T ty t N' f' A U H) (hN : N < 100) (hN' : N' < 100) : N = N' ∧ ∀ j, j < N → f j = f' j := by
  obtain ⟨c, a1, a2, a3, a4, a5, a6, a7⟩ := h
  obtain ⟨c', b1, b2, b3, b4, b5, b6, b7⟩ := h'
  cases a1.symm.trans b1
  have e : Int32.ofNat N = Int32.ofNat N' := a5.symm.trans b5
  have e1 : (Int32.ofNat N).toNatClampNeg = N := Int32.toNatClampNeg_ofNat_of_lt (by omega)
  have e2 : (Int32.ofNat N').toNatClampNeg = N' := Int32.toNatClampNeg_ofNat_of_lt (by omega)
  have e3 : N = N' := by rw [← e1, ← e2, e]
  exact ⟨e3, fun j hj => Option.some.inj ((a6 j hj).symm.trans (b6 j (by omega)))⟩
theorem fz_df : ((List.range 30).all fun i => (List.range 30).all fun j => Nat.beq i j || (!(Nat.beq (mw_oL.getD i 0) (mw_oL.getD j 0)) || (List.range (mw_oL.getD i 0)).any fun k => !decide ((mw_oS.getD i []).getD k 0 = (mw_oS.getD j []).getD k 0))) = true := by decide +kernel
def fz_old (b t1 t2 t3 t4 z t : Nat) (adK adV adI : Nat → Nat) (a : Nat) : Nat := if a = 1000000 then b else if a = 1000201 then t1 else if a = 1000202 then t2 else if a = 1000203 then t3 else if a = 1000400 then t4 else if a = 1000300 then z else if a = 1000301 then t else if a < 1000101 then adK (a - 1000001) else if a < 1000200 then adV (a - 1000101) else if a < 1000800 then adI (a - 1000500) else 0
theorem fz_ctx {s : State} {b L : Nat} {xs : Nat → Int32} (hall : ∀ w ∈ mw_tbl, w.before #[Value.ref b] s = true) (hgv : (Jvm.Cond.and given_1 narrow_1).before #[Value.ref b] s = true) (hX : va_X b L xs s s.heap) (hbl : b < s.heap.size) : ∃ G : mw_G, G.1 = s.heap.size ∧ mw_rho G 1000000 = b ∧ G.2.2.2.2 = (L, xs) ∧ mw_Ctx G s := by
  have hA : ∀ a : Nat, a < s.heap.size → ¬ (fun q : Nat => s.heap.size ≤ q) a := fun a h => Nat.not_le.mpr h
  have hn : ∀ (i : Nat) (w : Jvm.Cond), fz_g i w = true → w.before #[Value.ref b] s = true := fun i w h => flat_of_before _ hgv w (List.mem_of_getElem? (of_decide_eq_true h))
  have hg : ∀ (i : Nat) (w : Jvm.Cond), mw_get i = some w → w.before #[Value.ref b] s = true := fun i w h => hall w (mw_get_in h)
  obtain ⟨D, ar, hK⟩ := fz_K hall
  have hp : ∀ i : Nat, i < 30 → fz_p i = true := fun i hi => List.all_eq_true.mp fz_1 i (List.mem_range.mpr hi)
  have hp : ∀ i : Nat, i < 30 → ((((((fz_g (fz_x.getD i 0) (.exactly (fz_t i) "java/lang/String") = true ∧ fz_g (fz_x.getD i 0 + 1) (.eq (.field (fz_t i) "java/lang/String" "coder" "B") (.int 0)) = true) ∧ fz_g (fz_x.getD i 0 + 2) (.arrayOf (fz_v i) .byte) = true) ∧ fz_g (fz_x.getD i 0 + 3) (.eq (.length (fz_v i)) (.int (Int32.ofNat (mw_oL.getD i 0)))) = true) ∧ ((List.range (mw_oL.getD i 0)).all fun j => fz_g (fz_x.getD i 0 + 4 + j) (.eq (.elem (fz_v i) (.int (Int32.ofNat j))) (.int ((mw_oS.getD i []).getD j 0)))) = true) ∧ mw_oL.getD i 0 < 100) ∧ mw_get (fz_r i) = some (.stringRef (mw_oC.getD i ("", 0)).1 (mw_oC.getD i ("", 0)).2 (mw_oT.getD i ""))) := fun i hi => by
    have h := hp i hi
    unfold fz_p at h
    simp only [Bool.and_eq_true, decide_eq_true_eq] at h
    exact h
  have h30 : ∀ i : Nat, ∃ q : Nat × Nat, i < 30 → (va_O "java/lang/String" q.1 (fun q : Nat => s.heap.size ≤ q) s s.heap ∧ va_OF "java/lang/String" "coder" "B" (.int 0) q.1 (fun q : Nat => s.heap.size ≤ q) s s.heap ∧ va_OF "java/lang/String" "value" "[B" (.ref q.2) q.1 (fun q : Nat => s.heap.size ≤ q) s s.heap ∧ va_T .byte q.2 (mw_oL.getD i 0) (fun j => .int ((mw_oS.getD i []).getD j 0)) (fun q : Nat => s.heap.size ≤ q) s s.heap) ∧ (fz_t i).eval #[Value.ref b] s none [] s = some (.ref q.1) := by
    intro i
    by_cases hi : i < 30
    · obtain ⟨aK, aV, hS, he⟩ := vk_Sof (args := #[Value.ref b]) (s := s) (N := 1) (tm := fun _ => fz_t i) (len := [mw_oL.getD i 0]) (byt := [mw_oS.getD i []]) (A := fun q : Nat => s.heap.size ≤ q) (fun x hx => by rw [show x = 0 by omega]; exact Nat.lt_trans (hp i hi).1.2 (by decide)) (fun _ _ => hn _ _ (hp i hi).1.1.1.1.1.1) (fun _ _ => hn _ _ (hp i hi).1.1.1.1.1.2) (fun _ _ => hn _ _ (hp i hi).1.1.1.1.2) (fun x hx => by rw [show x = 0 by omega]; exact hn _ _ (hp i hi).1.1.1.2) (fun x hx j hj => by
        rw [show x = 0 by omega] at hj ⊢
        exact hn _ _ (List.all_eq_true.mp (hp i hi).1.1.2 j (List.mem_range.mpr hj))) (fun x y hx hy hne => absurd (show x = y by omega) hne) hA
      exact ⟨(aK 0, aV 0), fun _ => ⟨hS.1 0 (by decide), he 0 (by decide)⟩⟩
    · exact ⟨(0, 0), fun h => absurd h hi⟩
  obtain ⟨ad, had⟩ := Classical.axiomOfChoice h30
  have hS : vk_S 30 mw_oL mw_oS (fun i => (ad i).1) (fun i => (ad i).2) (fun q : Nat => s.heap.size ≤ q) s s.heap := by
    refine ⟨fun i hi => (had i hi).1, fun i j hi hj e => ?_⟩
    have e : (ad i).1 = (ad j).1 := e
    have x := (had i hi).1.2.2.1
    rw [e] at x
    have y : (ad i).2 = (ad j).2 := by
      have := fz_of x (had j hj).1.2.2.1
      exact Value.ref.inj this
    have z := (had i hi).1.2.2.2
    rw [y] at z
    have u := fz_tt z (had j hj).1.2.2.2 (hp i hi).1.2 (hp j hj).1.2
    have d := List.all_eq_true.mp (List.all_eq_true.mp fz_df i (List.mem_range.mpr hi)) j (List.mem_range.mpr hj)
    rcases (Bool.or_eq_true _ _).mp d with d | d
    · exact Nat.eq_of_beq_eq_true d
    · exfalso
      rcases (Bool.or_eq_true _ _).mp d with d | d
      · rw [u.1] at d
        have r : Nat.beq (mw_oL.getD j 0) (mw_oL.getD j 0) = true := Nat.beq_refl _
        rw [r] at d
        cases d
      · obtain ⟨k, hk, hd⟩ := List.any_eq_true.mp d
        have q := Value.int.inj (u.2 k (List.mem_range.mp hk))
        rw [decide_eq_true q] at hd
        cases hd
  have h2 : ∀ j : Nat, j < 100 → fz_g (14 + j) (.eq (.elem fz_o (.int (Int32.ofNat j))) (.int (mw_ob 1000201 j))) = true ∧ fz_g (117 + j) (.eq (.elem fz_n (.int (Int32.ofNat j))) (.int (mw_ob 1000202 j))) = true := fun j hj => by
    have h := List.all_eq_true.mp fz_2 j (List.mem_range.mpr hj)
    rw [Bool.and_eq_true] at h
    exact h
  obtain ⟨t1, ht1, hT1⟩ := va_Tof (args := #[Value.ref b]) (s := s) (tm := fz_o) (ty := .byte) (N := 100) (f := fun j => .int (mw_ob 1000201 j)) (A := fun q : Nat => s.heap.size ≤ q) (by decide) (hn _ _ fz_7) (va_eqt (hn _ _ fz_8)) (fun j hj => va_eqt (hn _ _ (h2 j hj).1)) hA
  obtain ⟨t2, ht2, hT2⟩ := va_Tof (args := #[Value.ref b]) (s := s) (tm := fz_n) (ty := .byte) (N := 100) (f := fun j => .int (mw_ob 1000202 j)) (A := fun q : Nat => s.heap.size ≤ q) (by decide) (hn _ _ fz_9) (va_eqt (hn _ _ fz_10)) (fun j hj => va_eqt (hn _ _ (h2 j hj).2)) hA
  obtain ⟨t3, ht3, hT3⟩ := va_Tof (args := #[Value.ref b]) (s := s) (tm := fz_e) (ty := .object "java/lang/Object") (N := 0) (f := fun _ => .null) (A := fun q : Nat => s.heap.size ≤ q) (by decide) (hn _ _ fz_12) (va_eqt (hn _ _ fz_13)) (fun j hj => absurd hj (Nat.not_lt_zero j)) hA
  obtain ⟨adI, hI, hIe⟩ := vb_Cof (args := #[Value.ref b]) (s := s) (st := fz_k) (A := fun q : Nat => s.heap.size ≤ q) (by decide +kernel) (va_eqt (hn _ _ fz_16)) (hn _ _ fz_17) hA
  obtain ⟨t4, ht4, hT4⟩ := va_Tof (args := #[Value.ref b]) (s := s) (tm := fz_k) (ty := .object "java/lang/Integer") (N := 256) (f := fun j => .ref (adI j)) (A := fun q : Nat => s.heap.size ≤ q) (by decide) (hn _ _ fz_15) (va_eqt (hn _ _ fz_16)) (fun j hj => hIe j hj) hA
  obtain ⟨z, t, hz⟩ : ∃ z t : Nat, va_Z "jdk/internal/util/Preconditions" "SIOOBE_FORMATTER" "Ljava/util/function/BiFunction;" (if z = 0 then .null else .ref t) (fun q : Nat => s.heap.size ≤ q) s s.heap := by
    rcases va_Zqof (A := fun q : Nat => s.heap.size ≤ q) (hg _ _ fz_w6) (hg _ _ fz_w7) (hn _ _ fz_6) hA with h | ⟨t, h⟩
    · exact ⟨0, 0, h⟩
    · exact ⟨1, t, h⟩
  have hZ1 := va_Zof (A := fun q : Nat => s.heap.size ≤ q) (hg _ _ fz_w1) (hg _ _ fz_w2) (va_eqi (hn _ _ fz_3)) hA
  have hZ2 := va_Zof (A := fun q : Nat => s.heap.size ≤ q) (hg _ _ fz_w8) (hg _ _ fz_w10) ht1 hA
  have hZ3 := va_Zof (A := fun q : Nat => s.heap.size ≤ q) (hg _ _ fz_w9) (hg _ _ fz_w10) ht2 hA
  have hZ4 := va_Zof (A := fun q : Nat => s.heap.size ≤ q) (hg _ _ fz_w11) (hg _ _ fz_w12) ht3 hA
  have hZ5 := va_Zof (A := fun q : Nat => s.heap.size ≤ q) (hg _ _ fz_w13) (hg _ _ fz_w15) (va_eqi (hn _ _ fz_14)) hA
  have hZ6 := va_Zof (A := fun q : Nat => s.heap.size ≤ q) (hg _ _ fz_w14) (hg _ _ fz_w15) ht4 hA
  have hU := vx_Zqof (A := fun q : Nat => s.heap.size ≤ q) (hg _ _ fz_w3) (hg _ _ fz_w5) (hn _ _ fz_4) hA
  have hN := vx_Zqof (A := fun q : Nat => s.heap.size ≤ q) (hg _ _ fz_w4) (hg _ _ fz_w5) (hn _ _ fz_5) hA
  have hc : ∀ e f : Nat, e < 6 → f < 5 → e ≠ f → va_Nc (mw_exn e) (mw_exn f) s := fun e f he hf hne => by
    have h := List.all_eq_true.mp (List.all_eq_true.mp fz_11 e (List.mem_range.mpr he)) f (List.mem_range.mpr hf)
    rw [Bool.or_eq_true] at h
    rcases h with h | h
    · exact absurd (Nat.eq_of_beq_eq_true h) hne
    · exact va_Nc.of (hn _ _ h)
  have hF : ∀ nm : String × String, nm = ("hasNext", "()Z") ∨ nm = ("next", "()Ljava/lang/Object;") → va_Fw "java/util/ArrayList$Itr" (mw_itr nm).1 (mw_itr nm).2 s := fun nm h => by
    rcases h with rfl | rfl
    · exact va_Fw.of (hg _ _ fz_ih1) (hg _ _ fz_ih2) (hg _ _ fz_ih3) (hg _ _ fz_ih4) (hg _ _ fz_i5)
    · exact va_Fw.of (hg _ _ fz_in1) (hg _ _ fz_in2) (hg _ _ fz_in3) (hg _ _ fz_in4) (hg _ _ fz_i5)
  have o0 : fz_old b t1 t2 t3 t4 z t (fun i => (ad i).1) (fun i => (ad i).2) adI 1000000 = b := by
    unfold fz_old
    rw [if_pos rfl]
  have o1 : fz_old b t1 t2 t3 t4 z t (fun i => (ad i).1) (fun i => (ad i).2) adI 1000201 = t1 := by
    unfold fz_old
    rw [if_neg (by decide), if_pos rfl]
  have o2 : fz_old b t1 t2 t3 t4 z t (fun i => (ad i).1) (fun i => (ad i).2) adI 1000202 = t2 := by
    unfold fz_old
    rw [if_neg (by decide), if_neg (by decide), if_pos rfl]
  have o5 : fz_old b t1 t2 t3 t4 z t (fun i => (ad i).1) (fun i => (ad i).2) adI 1000203 = t3 := by
    unfold fz_old
    rw [if_neg (by decide), if_neg (by decide), if_neg (by decide), if_pos rfl]
  have o6 : fz_old b t1 t2 t3 t4 z t (fun i => (ad i).1) (fun i => (ad i).2) adI 1000400 = t4 := by
    unfold fz_old
    rw [if_neg (by decide), if_neg (by decide), if_neg (by decide), if_neg (by decide), if_pos rfl]
  have o3 : fz_old b t1 t2 t3 t4 z t (fun i => (ad i).1) (fun i => (ad i).2) adI 1000300 = z := by
    unfold fz_old
    rw [if_neg (by decide), if_neg (by decide), if_neg (by decide), if_neg (by decide), if_neg (by decide), if_pos rfl]
  have o4 : fz_old b t1 t2 t3 t4 z t (fun i => (ad i).1) (fun i => (ad i).2) adI 1000301 = t := by
    unfold fz_old
    rw [if_neg (by decide), if_neg (by decide), if_neg (by decide), if_neg (by decide), if_neg (by decide), if_neg (by decide), if_pos rfl]
  have oK : ∀ i : Nat, i < 30 → fz_old b t1 t2 t3 t4 z t (fun i => (ad i).1) (fun i => (ad i).2) adI (1000001 + i) = (ad i).1 := fun i hi => by
    unfold fz_old
    rw [if_neg (by omega), if_neg (by omega), if_neg (by omega), if_neg (by omega), if_neg (by omega), if_neg (by omega), if_neg (by omega), if_pos (by omega), show 1000001 + i - 1000001 = i by omega]
  have oV : ∀ i : Nat, i < 30 → fz_old b t1 t2 t3 t4 z t (fun i => (ad i).1) (fun i => (ad i).2) adI (1000101 + i) = (ad i).2 := fun i hi => by
    unfold fz_old
    rw [if_neg (by omega), if_neg (by omega), if_neg (by omega), if_neg (by omega), if_neg (by omega), if_neg (by omega), if_neg (by omega), if_neg (by omega), if_pos (by omega), show 1000101 + i - 1000101 = i by omega]
  have oI : ∀ i : Nat, i < 256 → fz_old b t1 t2 t3 t4 z t (fun i => (ad i).1) (fun i => (ad i).2) adI (1000500 + i) = adI i := fun i hi => by
    unfold fz_old
    rw [if_neg (by omega), if_neg (by omega), if_neg (by omega), if_neg (by omega), if_neg (by omega), if_neg (by omega), if_neg (by omega), if_neg (by omega), if_neg (by omega), if_pos (by omega), show 1000500 + i - 1000500 = i by omega]
  have oP : ∀ q : Nat, fz_old b t1 t2 t3 t4 z t (fun i => (ad i).1) (fun i => (ad i).2) adI (2000000 + q) = 0 := fun q => by
    unfold fz_old
    rw [if_neg (by omega), if_neg (by omega), if_neg (by omega), if_neg (by omega), if_neg (by omega), if_neg (by omega), if_neg (by omega), if_neg (by omega), if_neg (by omega), if_neg (by omega)]
  generalize fz_old b t1 t2 t3 t4 z t (fun i => (ad i).1) (fun i => (ad i).2) adI = old at o0 o1 o2 o3 o4 o5 o6 oK oV oI oP
  have rh : ∀ a : Nat, ¬ a < 1000000 → a < 2000000 → mw_rho (s.heap.size, D, ar, old, (L, xs)) a = old a := fun a ha hb => by
    unfold mw_rho
    rw [if_neg ha, if_pos hb]
  have np : ∀ q : Nat, ¬ mw_prot (s.heap.size, D, ar, old, (L, xs)) q := fun q h => by
    have h : old (2000000 + q) = 1 := h
    rw [oP] at h
    cases h
  have nw : ∀ q : Nat, mw_A (s.heap.size, D, ar, old, (L, xs)) q → s.heap.size ≤ q := fun q h => h.1
  refine ⟨(s.heap.size, D, ar, old, (L, xs)), rfl, (rh _ (by decide) (by decide)).trans o0, rfl, hK, ⟨?_, hZ1.narrow nw, ?_, ?_, ?_, ?_, ?_, ?_, fun i hi => ?_⟩, ?_, ⟨Nat.le_refl _, fun q h => (np q h).elim⟩, fun w hw => fz_nw (List.mem_filter.mp hw).2 (hall w (List.mem_filter.mp hw).1), hU.narrow nw, hN.narrow nw, hc, hZ5.narrow nw, ?_, ?_, ?_, ?_, ?_, hF⟩
  · show va_X (old 1000000) L xs s s.heap
    rw [o0]
    exact hX
  · rw [rh _ (by decide) (by decide), o1]
    exact hZ2.narrow nw
  · rw [rh _ (by decide) (by decide), o2]
    exact hZ3.narrow nw
  · have e : mw_fm (s.heap.size, D, ar, old, (L, xs)) = if z = 0 then .null else .ref t := by
      show (if old 1000300 = 0 then Value.null else .ref (old 1000301)) = _
      rw [o3, o4]
    rw [e]
    exact hz.narrow nw
  · rw [rh _ (by decide) (by decide), o1]
    exact hT1.narrow nw
  · rw [rh _ (by decide) (by decide), o2]
    exact hT2.narrow nw
  · have h := hS.narrow nw
    refine ⟨fun i hi => ?_, fun i j hi hj e => ?_⟩
    · have h9 := h.1 i hi
      dsimp only at h9 ⊢
      rw [rh _ (by omega) (by omega), rh _ (by omega) (by omega), oK i hi, oV i hi]
      exact h9
    · dsimp only at e
      rw [rh _ (by omega) (by omega), rh _ (by omega) (by omega), oK i hi, oK j hj] at e
      exact h.2 i j hi hj e
  · rw [rh _ (by omega) (by omega), oK i hi]
    exact vk_R.of (hg _ _ (hp i hi).2) (had i hi).2
  · show old 1000000 < s.heap.size
    rw [o0]
    exact hbl
  · rw [rh _ (by decide) (by decide), o6]
    exact hZ6.narrow nw
  · rw [rh _ (by decide) (by decide), o5]
    exact hZ4.narrow nw
  · rw [rh _ (by decide) (by decide), o6]
    obtain ⟨cell, z1, z2, z3, z4, z5, z6, z7⟩ := hT4.narrow nw
    exact ⟨cell, z1, z2, z3, z4, z5, fun j hj => by dsimp only; rw [rh _ (by omega) (by omega), oI j hj]; exact z6 j hj, z7⟩
  · have h := hI.narrow nw
    refine ⟨fun k hk => ?_, fun k hk => ?_⟩
    · have h9 := h.1 k hk
      dsimp only at h9 ⊢
      rw [rh _ (by omega) (by omega), oI k hk]
      exact h9
    · have h9 := h.2 k hk
      dsimp only at h9 ⊢
      rw [rh _ (by omega) (by omega), oI k hk]
      exact h9
  · rw [rh _ (by decide) (by decide), o5]
    exact hT3.narrow nw
