/-! the start: what the Statement gives is what the machine wants -/
def fz_T : List Jvm.Cond := flatC (Jvm.Cond.and given_1 narrow_1)
def fz_g (i : Nat) (w : Jvm.Cond) : Bool := decide (fz_T[i]? = some w)
def fz_x : List Nat := [347, 359, 378, 395, 413, 429, 447, 463, 480, 500]
def fz_c : List (List Nat) := [[0, 231, 253, 317, 295, 339], [275, 0, 254, 318, 296, 340], [276, 232, 0, 319, 297, 341], [277, 233, 255, 0, 298, 342], [278, 234, 256, 320, 0, 343], [280, 238, 260, 324, 302, 0]]
def fz_t (i : Nat) : Jvm.Term := .string "MoonFerryOffice$CommandText" (64 + 2 * i)
def fz_v (i : Nat) : Jvm.Term := .field (fz_t i) "java/lang/String" "value" "[B"
def fz_o : Jvm.Term := .static "java/lang/Integer" "DigitOnes" "[B"
def fz_n : Jvm.Term := .static "java/lang/Integer" "DigitTens" "[B"
def fz_p (i : Nat) : Bool := fz_g (fz_x.getD i 0) (.exactly (fz_t i) "java/lang/String") && fz_g (fz_x.getD i 0 + 1) (.eq (.field (fz_t i) "java/lang/String" "coder" "B") (.int 0)) && fz_g (fz_x.getD i 0 + 2) (.arrayOf (fz_v i) .byte) && fz_g (fz_x.getD i 0 + 3) (.eq (.length (fz_v i)) (.int (Int32.ofNat (mw_oL.getD i 0)))) && ((List.range (mw_oL.getD i 0)).all fun j => fz_g (fz_x.getD i 0 + 4 + j) (.eq (.elem (fz_v i) (.int (Int32.ofNat j))) (.int ((mw_oS.getD i []).getD j 0)))) && ((List.range i).all fun k => fz_g (fz_x.getD i 0 + 4 + mw_oL.getD i 0 + k) (.not (.eq (fz_t k) (fz_t i)))) && decide (mw_oL.getD i 0 < 100) && decide (mw_get (6208 + i) = some (.stringRef "MoonFerryOffice$CommandText" (64 + 2 * i) (mw_oT.getD i "")))
set_option maxRecDepth 100000 in
theorem fz_1 : ((List.range 10).all fun i => fz_p i) = true := by decide +kernel
set_option maxRecDepth 100000 in
theorem fz_2 : ((List.range 100).all fun j => fz_g (14 + j) (.eq (.elem fz_o (.int (Int32.ofNat j))) (.int (mw_ob 1000201 j))) && fz_g (117 + j) (.eq (.elem fz_n (.int (Int32.ofNat j))) (.int (mw_ob 1000202 j)))) = true := by decide +kernel
theorem fz_3 : fz_g 4 (.eq (.static "java/lang/String" "COMPACT_STRINGS" "Z") (.int 1)) = true := by decide +kernel
theorem fz_4 : fz_g 5 (.isRef (.static "java/lang/Throwable" "UNASSIGNED_STACK" "[Ljava/lang/StackTraceElement;")) = true := by decide +kernel
theorem fz_5 : fz_g 6 (.isRef (.static "java/lang/Throwable" "SUPPRESSED_SENTINEL" "Ljava/util/List;")) = true := by decide +kernel
theorem fz_6 : fz_g 7 (.isRef (.static "jdk/internal/util/Preconditions" "SIOOBE_FORMATTER" "Ljava/util/function/BiFunction;")) = true := by decide +kernel
theorem fz_7 : fz_g 12 (.arrayOf fz_o .byte) = true := by decide +kernel
theorem fz_8 : fz_g 13 (.eq (.length fz_o) (.int (Int32.ofNat 100))) = true := by decide +kernel
theorem fz_9 : fz_g 115 (.arrayOf fz_n .byte) = true := by decide +kernel
theorem fz_10 : fz_g 116 (.eq (.length fz_n) (.int (Int32.ofNat 100))) = true := by decide +kernel
set_option maxRecDepth 100000 in
theorem fz_11 : ((List.range 6).all fun e => (List.range 6).all fun f => Nat.beq e f || fz_g ((fz_c.getD e []).getD f 0) (.not (.castable (mw_exn e) (mw_exn f)))) = true := by decide +kernel
theorem fz_w1 : mw_get 2231 = some (.laysStatic "java/lang/String" "COMPACT_STRINGS" "Z") := by decide +kernel
theorem fz_w2 : mw_get 1015 = some (.initialized "java/lang/String") := by decide +kernel
theorem fz_w3 : mw_get 4097 = some (.laysStatic "java/lang/Throwable" "UNASSIGNED_STACK" "[Ljava/lang/StackTraceElement;") := by decide +kernel
theorem fz_w4 : mw_get 4099 = some (.laysStatic "java/lang/Throwable" "SUPPRESSED_SENTINEL" "Ljava/util/List;") := by decide +kernel
theorem fz_w5 : mw_get 1019 = some (.initialized "java/lang/Throwable") := by decide +kernel
theorem fz_w6 : mw_get 7006 = some (.laysStatic "jdk/internal/util/Preconditions" "SIOOBE_FORMATTER" "Ljava/util/function/BiFunction;") := by decide +kernel
theorem fz_w7 : mw_get 1031 = some (.initialized "jdk/internal/util/Preconditions") := by decide +kernel
theorem fz_w8 : mw_get 7191 = some (.laysStatic "java/lang/Integer" "DigitOnes" "[B") := by decide +kernel
theorem fz_w9 : mw_get 7193 = some (.laysStatic "java/lang/Integer" "DigitTens" "[B") := by decide +kernel
theorem fz_w10 : mw_get 1035 = some (.initialized "java/lang/Integer") := by decide +kernel
theorem fz_a0 : mw_get 1103 = some (.arrayClass .int) := by decide +kernel
theorem fz_a1 : mw_get 2220 = some (.arrayClass .char) := by decide +kernel
theorem fz_a2 : mw_get 10209 = some (.arrayClass .long) := by decide +kernel
theorem fz_a3 : mw_get 10210 = some (.arrayClass .double) := by decide +kernel
theorem fz_a4 : mw_get 3013 = some (.arrayClass .byte) := by decide +kernel
theorem fz_a5 : mw_get 2185 = some (.arrayOver (.object "MoonFerryOffice$State")) := by decide +kernel
theorem fz_a6 : mw_get 2040 = some (.arrayOver (.array .int)) := by decide +kernel
/-- a private method, its receiver of a class below -/
theorem fz_sel {y z : MethodName} {s : State} {args : Array Value} (hy : y.cls ≠ "java/lang/invoke/MethodHandle" ∧ y.cls ≠ "java/lang/invoke/VarHandle") (h0 : (Cond.selects "java/lang/StringBuilder" z z).before args s = true) (hcls : z.cls = y.cls)
    (hpriv : (Cond.privateMethod y).before args s = true) (hinst : (Cond.instanceMethod y).before args s = true) : (Cond.selects "java/lang/StringBuilder" y y).before args s = true := by
  obtain ⟨mk, methM, hnamed, hmethM, -, -⟩ := Cond.instanceMethod_spec hinst
  have hfound : s.methodFound? y.cls y.name y.desc = some mk := State.methodFound?_of_named hnamed hy
  have hsel : ∀ c : ClassId, selectMethod {} s.vm c mk = .method mk := fun c => selectMethod_private hmethM (Cond.privateMethod_at hpriv mk methM hnamed hmethM)
  simp only [Cond.before, Cond.holds, Cond.value] at h0
  cases hc : s.vm.findClass "java/lang/StringBuilder" with
  | none => simp [hc] at h0
  | some c =>
    cases hf : s.methodFound? z.cls z.name z.desc with
    | none => simp [hc, hf] at h0
    | some r =>
      cases hz : s.methodNamed? z with
      | none => simp [hc, hf, hz] at h0
      | some m =>
        have hm : m.cls = mk.cls := Option.some.inj ((findClass_of_methodNamed hz).symm.trans (by rw [hcls]; exact findClass_of_methodNamed hnamed))
        have hany : (s.vm.classes[mk.cls]?).any (fun k => !k.isInterface) = true := by
          rw [← hm]
          cases hs : selectMethod {} s.vm c r with
          | method m' => simp [hc, hf, hz, hs] at h0 ⊢; exact h0.2
          | _ => simp [hc, hf, hz, hs] at h0
        simp only [Cond.before, Cond.holds, Cond.value, hc, hfound, hnamed, hsel, hany]
        simp
theorem fz_s1 : mw_get 7125 = some (.selects "java/lang/StringBuilder" ⟨"java/lang/AbstractStringBuilder", "isLatin1", "()Z"⟩ ⟨"java/lang/AbstractStringBuilder", "isLatin1", "()Z"⟩) := by decide +kernel
theorem fz_s2 : mw_get 7094 = some (.privateMethod mw_ens) := by decide +kernel
theorem fz_s3 : mw_get 7095 = some (.instanceMethod mw_ens) := by decide +kernel
theorem fz_s4 : mw_get 7098 = some (.privateMethod mw_ncp) := by decide +kernel
theorem fz_s5 : mw_get 7099 = some (.instanceMethod mw_ncp) := by decide +kernel
theorem fz_lw {i : Nat} {w : Jvm.Cond} (h : mw_get i = some w) (hi : ¬ i / 1000 = 12) : w ∈ lw_tbl := by
  have h1 : w ∈ mw_seg (i / 1000) := List.mem_of_getElem? h
  revert h1 hi
  generalize i / 1000 = k
  unfold lw_tbl tables_1 mw_seg
  intro hi h1
  simp only [List.mem_append]
  split at h1
  · exact Or.inl h1
  · exact Or.inr (Or.inl h1)
  · exact Or.inr (Or.inr (Or.inl h1))
  · exact Or.inr (Or.inr (Or.inr (Or.inl h1)))
  · exact Or.inr (Or.inr (Or.inr (Or.inr (Or.inl h1))))
  · exact Or.inr (Or.inr (Or.inr (Or.inr (Or.inr (Or.inl h1)))))
  · exact Or.inr (Or.inr (Or.inr (Or.inr (Or.inr (Or.inr (Or.inl h1))))))
  · exact Or.inr (Or.inr (Or.inr (Or.inr (Or.inr (Or.inr (Or.inr (Or.inl h1)))))))
  · exact Or.inr (Or.inr (Or.inr (Or.inr (Or.inr (Or.inr (Or.inr (Or.inr (Or.inl h1))))))))
  · exact Or.inr (Or.inr (Or.inr (Or.inr (Or.inr (Or.inr (Or.inr (Or.inr (Or.inr (Or.inl h1)))))))))
  · exact Or.inr (Or.inr (Or.inr (Or.inr (Or.inr (Or.inr (Or.inr (Or.inr (Or.inr (Or.inr (Or.inl h1))))))))))
  · exact Or.inr (Or.inr (Or.inr (Or.inr (Or.inr (Or.inr (Or.inr (Or.inr (Or.inr (Or.inr (Or.inr h1))))))))))
  · exact absurd rfl hi
  · cases h1
theorem fz_all {args : Array Value} {s : State} (hts : ∀ w ∈ lw_tbl, w.before args s = true) : ∀ w ∈ mw_tbl, w.before args s = true := by
  have hg : ∀ (i : Nat) (w : Jvm.Cond), mw_get i = some w → ¬ i / 1000 = 12 → w.before args s = true := fun i w h hi => hts w (fz_lw h hi)
  intro w hw
  rcases List.mem_append.mp hw with h | h
  · unfold mw_sel at h
    simp only [List.mem_cons, List.not_mem_nil, or_false] at h
    rcases h with rfl | rfl
    · exact fz_sel ⟨by decide +kernel, by decide +kernel⟩ (hg _ _ fz_s1 (by decide)) rfl (hg _ _ fz_s2 (by decide)) (hg _ _ fz_s3 (by decide))
    · exact fz_sel ⟨by decide +kernel, by decide +kernel⟩ (hg _ _ fz_s1 (by decide)) rfl (hg _ _ fz_s4 (by decide)) (hg _ _ fz_s5 (by decide))
  · exact hts w h
theorem fz_ins : ∀ (c : Nat) (r : vw_C), vwCl[c]? = some r → Jvm.Cond.instantiable r.1 r.2.2 ∈ mw_tbl := by
  have h : (vwCl.all fun r => decide (Jvm.Cond.instantiable r.1 r.2.2 ∈ mw_tbl)) = true := by decide +kernel
  intro c r hc
  rw [List.all_eq_true] at h
  exact of_decide_eq_true (h r (List.mem_of_getElem? hc))
theorem fz_prim {args : Array Value} {s : State} {ty : FieldType} (h : (Cond.arrayClass ty).before args s = true) : ∃ cA : ClassId, ArrOfT s cA ty ∧ s.vm.findClass ("[" ++ ty.toString) = some cA := by
  obtain ⟨c, k, comp, h1, h2, h3⟩ := Cond.arrayClass_spec h
  exact ⟨c, fun n z => ⟨(fun k h => by cases h), k, h2, comp, h3⟩, h1⟩
theorem fz_K {args : Array Value} {s : State} (hts : ∀ w ∈ mw_tbl, w.before args s = true) : ∃ (D : va_G) (ar : Nat → ClassId), va_K D vwCl ((List.range 7).map (fun j => (ar j, mw_aty j))) s := by
  have hg : ∀ (i : Nat) (w : Jvm.Cond), mw_get i = some w → w.before args s = true := fun i w h => hts w (mw_get_in h)
  have h0 : ∀ c : Nat, ∃ x : ClassId × (Nat → Nat), ∀ q : vw_C, vwCl[c]? = some q → u_Kn s q.1 q.2.1 q.2.2 x.1 x.2 := by
    intro c
    by_cases hc : c < vwCl.length
    · have e : vwCl[c]? = some vwCl[c] := List.getElem?_eq_getElem hc
      obtain ⟨cC, iS, h⟩ := u_known (ws := mw_T) (s := s) (args := args) (C := vwCl[c].1) (T := vwCl[c].2.1) (N := vwCl[c].2.2) (n := vwCl[c].2.2) (fun w hw => hts w (List.mem_filter.mp hw).1) (mw_cls_ws c _ e) (hts _ (fz_ins c _ e))
      refine ⟨(cC, iS), fun q hq => ?_⟩
      rw [e] at hq
      cases hq
      exact h
    · obtain ⟨cA, -, -⟩ := fz_prim (hg _ _ fz_a0)
      exact ⟨(cA, fun _ => 0), fun q hq => absurd (List.getElem?_eq_some_iff.mp hq).1 hc⟩
  have h1 : ∀ j : Nat, ∃ cA : ClassId, j < 7 → ArrOfT s cA (mw_aty j) ∧ va_RA s cA (mw_aty j) := by
    intro j
    match j with
    | 0 =>
      obtain ⟨cA, a1, a2⟩ := fz_prim (hg _ _ fz_a0)
      exact ⟨cA, fun _ => ⟨a1, a2⟩⟩
    | 1 =>
      obtain ⟨cA, a1, a2⟩ := fz_prim (hg _ _ fz_a1)
      exact ⟨cA, fun _ => ⟨a1, a2⟩⟩
    | 2 =>
      obtain ⟨cA, a1, a2⟩ := fz_prim (hg _ _ fz_a2)
      exact ⟨cA, fun _ => ⟨a1, a2⟩⟩
    | 3 =>
      obtain ⟨cA, a1, a2⟩ := fz_prim (hg _ _ fz_a3)
      exact ⟨cA, fun _ => ⟨a1, a2⟩⟩
    | 4 =>
      obtain ⟨cA, a1, a2⟩ := fz_prim (hg _ _ fz_a4)
      exact ⟨cA, fun _ => ⟨a1, a2⟩⟩
    | 5 =>
      obtain ⟨comp, c, k, hcomp, -, hk, hkind, hname⟩ := Cond.arrayOver_spec (hg _ _ fz_a5)
      exact ⟨c, fun _ => ⟨fun n z => ⟨(fun k h => by cases h), k, hk, comp, hkind⟩, k, comp, hk, hkind, hcomp, hname⟩⟩
    | 6 =>
      obtain ⟨comp, c, k, hcomp, hk, hkind, hname⟩ := Cond.arrayOver_specA (hg _ _ fz_a6)
      exact ⟨c, fun _ => ⟨fun n z => ⟨(fun k h => by cases h), k, hk, comp, hkind⟩, hname⟩⟩
    | j + 7 =>
      obtain ⟨cA, -, -⟩ := fz_prim (hg _ _ fz_a0)
      exact ⟨cA, fun h => absurd h (by omega)⟩
  obtain ⟨d, hd⟩ := Classical.axiomOfChoice h0
  obtain ⟨ar, har⟩ := Classical.axiomOfChoice h1
  refine ⟨(fun c => (d c).1, fun c => (d c).2), ar, fun c q hq => hd c q hq, fun k q hq => ?_⟩
  rw [List.getElem?_map] at hq
  by_cases hk : k < 7
  · rw [List.getElem?_range hk] at hq
    cases hq
    exact har k hk
  · rw [List.getElem?_eq_none (by rw [List.length_range]; omega)] at hq
    cases hq
theorem fz_nw {w : Jvm.Cond} {args : Array Value} {s : State} (h : mw_ng w = true) (h1 : w.before args s = true) : va_Nw w s := by
  unfold mw_ng at h
  split at h <;> first | exact va_Nw.of rfl h1 | exact h1 | cases h
def fz_old (b t1 t2 z t : Nat) (adK adV : Nat → Nat) (a : Nat) : Nat := if a = 1000000 then b else if a = 1000201 then t1 else if a = 1000202 then t2 else if a = 1000300 then z else if a = 1000301 then t else if a < 1000101 then adK (a - 1000001) else adV (a - 1000101)
theorem fz_ctx {s : State} {b L : Nat} {xs : Nat → Int32} (hall : ∀ w ∈ mw_tbl, w.before #[Value.ref b] s = true) (hgv : (Jvm.Cond.and given_1 narrow_1).before #[Value.ref b] s = true) (hX : va_X b L xs s s.heap) (hbl : b < s.heap.size) : ∃ G : mw_G, G.1 = s.heap.size ∧ mw_rho G 1000000 = b ∧ G.2.2.2.2 = (L, xs) ∧ mw_Ctx G s := by
  have hA : ∀ a : Nat, a < s.heap.size → ¬ (fun q : Nat => s.heap.size ≤ q) a := fun a h => Nat.not_le.mpr h
  have hn : ∀ (i : Nat) (w : Jvm.Cond), fz_g i w = true → w.before #[Value.ref b] s = true := fun i w h => flat_of_before _ hgv w (List.mem_of_getElem? (of_decide_eq_true h))
  have hg : ∀ (i : Nat) (w : Jvm.Cond), mw_get i = some w → w.before #[Value.ref b] s = true := fun i w h => hall w (mw_get_in h)
  obtain ⟨D, ar, hK⟩ := fz_K hall
  have hp : ∀ i : Nat, i < 10 → fz_p i = true := fun i hi => List.all_eq_true.mp fz_1 i (List.mem_range.mpr hi)
  have hp : ∀ i : Nat, i < 10 → (((((((fz_g (fz_x.getD i 0) (.exactly (fz_t i) "java/lang/String") = true ∧ fz_g (fz_x.getD i 0 + 1) (.eq (.field (fz_t i) "java/lang/String" "coder" "B") (.int 0)) = true) ∧ fz_g (fz_x.getD i 0 + 2) (.arrayOf (fz_v i) .byte) = true) ∧ fz_g (fz_x.getD i 0 + 3) (.eq (.length (fz_v i)) (.int (Int32.ofNat (mw_oL.getD i 0)))) = true) ∧ ((List.range (mw_oL.getD i 0)).all fun j => fz_g (fz_x.getD i 0 + 4 + j) (.eq (.elem (fz_v i) (.int (Int32.ofNat j))) (.int ((mw_oS.getD i []).getD j 0)))) = true) ∧ ((List.range i).all fun k => fz_g (fz_x.getD i 0 + 4 + mw_oL.getD i 0 + k) (.not (.eq (fz_t k) (fz_t i)))) = true) ∧ mw_oL.getD i 0 < 100) ∧ mw_get (6208 + i) = some (.stringRef "MoonFerryOffice$CommandText" (64 + 2 * i) (mw_oT.getD i ""))) := fun i hi => by
    have h := hp i hi
    unfold fz_p at h
    simp only [Bool.and_eq_true, decide_eq_true_eq] at h
    exact h
  obtain ⟨adK, adV, hS, hev⟩ := vk_Sof (args := #[Value.ref b]) (s := s) (N := 10) (tm := fz_t) (len := mw_oL) (byt := mw_oS) (A := fun q : Nat => s.heap.size ≤ q) (fun i hi => Nat.lt_trans (hp i hi).1.2 (by decide)) (fun i hi => hn _ _ (hp i hi).1.1.1.1.1.1.1) (fun i hi => hn _ _ (hp i hi).1.1.1.1.1.1.2) (fun i hi => hn _ _ (hp i hi).1.1.1.1.1.2) (fun i hi => hn _ _ (hp i hi).1.1.1.1.2) (fun i hi j hj => hn _ _ (List.all_eq_true.mp (hp i hi).1.1.1.2 j (List.mem_range.mpr hj))) (fun i j hi hj hij => by
    rcases Nat.lt_or_ge i j with h | h
    · exact Or.inl (hn _ _ (List.all_eq_true.mp (hp j hj).1.1.2 i (List.mem_range.mpr h)))
    · exact Or.inr (hn _ _ (List.all_eq_true.mp (hp i hi).1.1.2 j (List.mem_range.mpr (by omega))))) hA
  have h2 : ∀ j : Nat, j < 100 → fz_g (14 + j) (.eq (.elem fz_o (.int (Int32.ofNat j))) (.int (mw_ob 1000201 j))) = true ∧ fz_g (117 + j) (.eq (.elem fz_n (.int (Int32.ofNat j))) (.int (mw_ob 1000202 j))) = true := fun j hj => by
    have h := List.all_eq_true.mp fz_2 j (List.mem_range.mpr hj)
    rw [Bool.and_eq_true] at h
    exact h
  obtain ⟨t1, ht1, hT1⟩ := va_Tof (args := #[Value.ref b]) (s := s) (tm := fz_o) (ty := .byte) (N := 100) (f := fun j => .int (mw_ob 1000201 j)) (A := fun q : Nat => s.heap.size ≤ q) (by decide) (hn _ _ fz_7) (va_eqt (hn _ _ fz_8)) (fun j hj => va_eqt (hn _ _ (h2 j hj).1)) hA
  obtain ⟨t2, ht2, hT2⟩ := va_Tof (args := #[Value.ref b]) (s := s) (tm := fz_n) (ty := .byte) (N := 100) (f := fun j => .int (mw_ob 1000202 j)) (A := fun q : Nat => s.heap.size ≤ q) (by decide) (hn _ _ fz_9) (va_eqt (hn _ _ fz_10)) (fun j hj => va_eqt (hn _ _ (h2 j hj).2)) hA
  obtain ⟨z, t, hz⟩ : ∃ z t : Nat, va_Z "jdk/internal/util/Preconditions" "SIOOBE_FORMATTER" "Ljava/util/function/BiFunction;" (if z = 0 then .null else .ref t) (fun q : Nat => s.heap.size ≤ q) s s.heap := by
    rcases va_Zqof (A := fun q : Nat => s.heap.size ≤ q) (hg _ _ fz_w6) (hg _ _ fz_w7) (hn _ _ fz_6) hA with h | ⟨t, h⟩
    · exact ⟨0, 0, h⟩
    · exact ⟨1, t, h⟩
  have hZ1 := va_Zof (A := fun q : Nat => s.heap.size ≤ q) (hg _ _ fz_w1) (hg _ _ fz_w2) (va_eqi (hn _ _ fz_3)) hA
  have hZ2 := va_Zof (A := fun q : Nat => s.heap.size ≤ q) (hg _ _ fz_w8) (hg _ _ fz_w10) ht1 hA
  have hZ3 := va_Zof (A := fun q : Nat => s.heap.size ≤ q) (hg _ _ fz_w9) (hg _ _ fz_w10) ht2 hA
  have hU := vx_Zqof (A := fun q : Nat => s.heap.size ≤ q) (hg _ _ fz_w3) (hg _ _ fz_w5) (hn _ _ fz_4) hA
  have hN := vx_Zqof (A := fun q : Nat => s.heap.size ≤ q) (hg _ _ fz_w4) (hg _ _ fz_w5) (hn _ _ fz_5) hA
  have hc : ∀ e f : Nat, e < 6 → f < 6 → e ≠ f → va_Nc (mw_exn e) (mw_exn f) s := fun e f he hf hne => by
    have h := List.all_eq_true.mp (List.all_eq_true.mp fz_11 e (List.mem_range.mpr he)) f (List.mem_range.mpr hf)
    rw [Bool.or_eq_true] at h
    rcases h with h | h
    · exact absurd (Nat.eq_of_beq_eq_true h) hne
    · exact va_Nc.of (hn _ _ h)
  have o0 : fz_old b t1 t2 z t adK adV 1000000 = b := if_pos rfl
  have o1 : fz_old b t1 t2 z t adK adV 1000201 = t1 := by
    unfold fz_old
    rw [if_neg (by decide), if_pos rfl]
  have o2 : fz_old b t1 t2 z t adK adV 1000202 = t2 := by
    unfold fz_old
    rw [if_neg (by decide), if_neg (by decide), if_pos rfl]
  have o3 : fz_old b t1 t2 z t adK adV 1000300 = z := by
    unfold fz_old
    rw [if_neg (by decide), if_neg (by decide), if_neg (by decide), if_pos rfl]
  have o4 : fz_old b t1 t2 z t adK adV 1000301 = t := by
    unfold fz_old
    rw [if_neg (by decide), if_neg (by decide), if_neg (by decide), if_neg (by decide), if_pos rfl]
  have oK : ∀ i : Nat, i < 10 → fz_old b t1 t2 z t adK adV (1000001 + i) = adK i := fun i hi => by
    unfold fz_old
    rw [if_neg (by omega), if_neg (by omega), if_neg (by omega), if_neg (by omega), if_neg (by omega), if_pos (by omega), show 1000001 + i - 1000001 = i by omega]
  have oV : ∀ i : Nat, i < 10 → fz_old b t1 t2 z t adK adV (1000101 + i) = adV i := fun i hi => by
    unfold fz_old
    rw [if_neg (by omega), if_neg (by omega), if_neg (by omega), if_neg (by omega), if_neg (by omega), if_neg (by omega), show 1000101 + i - 1000101 = i by omega]
  generalize fz_old b t1 t2 z t adK adV = old at o0 o1 o2 o3 o4 oK oV
  have rh : ∀ a : Nat, ¬ a < 1000000 → mw_rho (s.heap.size, D, ar, old, (L, xs)) a = old a := fun a ha => if_neg ha
  refine ⟨(s.heap.size, D, ar, old, (L, xs)), rfl, (rh _ (by decide)).trans o0, rfl, hK, ⟨?_, hZ1, ?_, ?_, ?_, ?_, ?_, ⟨fun i hi => ?_, fun i j hi hj e => ?_⟩, fun i hi => ?_⟩, ?_, Nat.le_refl _, fun w hw => fz_nw (List.mem_filter.mp hw).2 (hall w (List.mem_filter.mp hw).1), hU, hN, hc⟩
  · show va_X (old 1000000) L xs s s.heap
    rw [o0]
    exact hX
  · rw [rh _ (by decide), o1]
    exact hZ2
  · rw [rh _ (by decide), o2]
    exact hZ3
  · have e : mw_fm (s.heap.size, D, ar, old, (L, xs)) = if z = 0 then .null else .ref t := by
      show (if old 1000300 = 0 then Value.null else .ref (old 1000301)) = _
      rw [o3, o4]
    rw [e]
    exact hz
  · rw [rh _ (by decide), o1]
    exact hT1
  · rw [rh _ (by decide), o2]
    exact hT2
  · have h := hS.1 i hi
    dsimp only
    rw [rh _ (by omega), rh _ (by omega), oK i hi, oV i hi]
    exact h
  · dsimp only at e
    rw [rh _ (by omega), rh _ (by omega), oK i hi, oK j hj] at e
    exact hS.2 i j hi hj e
  · rw [rh _ (by omega), oK i hi]
    exact vk_R.of (hg _ _ (hp i hi).2) (hev i hi)
  · show old 1000000 < s.heap.size
    rw [o0]
    exact hbl
