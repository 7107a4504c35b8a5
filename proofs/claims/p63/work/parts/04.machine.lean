/-! ===== AN ABSTRACT MACHINE: typed cells at places 0, 1, ..; what a method does, as a least fixed point of one step ===== -/
/-- ints by place and slot; longs; doubles; references; the kind and length of a place; how many places there are -/
abbrev mw_Mem : Type := (Nat → Nat → Int32) × (Nat → Nat → Int64) × (Nat → Nat → UInt64) × (Nat → Nat → Option Nat) × (Nat → Option (Nat × Nat)) × Nat
abbrev mw_im (M : mw_Mem) : Nat → Nat → Int32 := M.1
abbrev mw_lm (M : mw_Mem) : Nat → Nat → Int64 := M.2.1
abbrev mw_dm (M : mw_Mem) : Nat → Nat → UInt64 := M.2.2.1
abbrev mw_rm (M : mw_Mem) : Nat → Nat → Option Nat := M.2.2.2.1
abbrev mw_kd (M : mw_Mem) : Nat → Option (Nat × Nat) := M.2.2.2.2.1
abbrev mw_n (M : mw_Mem) : Nat := M.2.2.2.2.2
def mw_u {α : Type} (f : Nat → Nat → α) (a k : Nat) (v : α) : Nat → Nat → α := fun x y => if x = a then (if y = k then v else f x y) else f x y
def mw_z {α : Type} (f : Nat → Nat → α) (a : Nat) (v : α) : Nat → Nat → α := fun x y => if x = a then v else f x y
def mw_k {α : Type} (f : Nat → α) (a : Nat) (v : α) : Nat → α := fun x => if x = a then v else f x
/-- pc, locals, stack, memory, cells and slots that may still be made -/
abbrev mw_Fr : Type := Nat × List (Option Value) × List Value × mw_Mem × Nat × Nat
/-- an instruction, its length, three numbers, places of words, a method, a constant -/
abbrev mw_I : Type := Instr × Nat × (Nat × Nat × Nat) × List Nat × MethodName × Int32
abbrev mw_Code : Type := List (List (Nat × mw_I))
/-- a method: its name, bytes, locals, what it returns, its code, its handlers (begin, end, exception, answer) -/
abbrev mw_CD : Type := MethodName × ByteArray × Nat × Option FieldType × mw_Code × List (Nat × Nat × Nat × Nat × Nat)
abbrev mw_Res : Type := mw_Fr ⊕ (Prop × mw_Fr × mw_Fr) ⊕ (Prop × mw_Fr) ⊕ (Option Value × mw_Mem) ⊕ (Prop × Option Value × mw_Mem)
def mw_find : List (Nat × mw_I) → Nat → Option mw_I
  | [], _ => none
  | q :: r, pc => if q.1 = pc then some q.2 else mw_find r pc
def mw_lk (cd : mw_CD) (pc : Nat) : Option mw_I := match cd.2.2.2.2.1[pc / 32]? with
  | some l => mw_find l pc
  | none => none
def mw_rv (r : Option Nat) : Value := match r with
  | none => .null
  | some a => .ref a
def mw_nx (pc : Nat) (ls : List (Option Value)) (st : List Value) (M : mw_Mem) (c sl : Nat) : Option mw_Res := some (.inl (pc, ls, st, M, c, sl))
def mw_nd (P : Prop) (pc : Nat) (ls : List (Option Value)) (st : List Value) (M : mw_Mem) (c sl : Nat) : Option mw_Res := some (.inr (.inr (.inl (P, pc, ls, st, M, c, sl))))
def mw_br (P : Prop) (t f : Nat) (ls : List (Option Value)) (st : List Value) (M : mw_Mem) (c sl : Nat) : Option mw_Res := some (.inr (.inl (P, (t, ls, st, M, c, sl), (f, ls, st, M, c, sl))))
def mw_rt (v : Option Value) (M : mw_Mem) : Option mw_Res := some (.inr (.inr (.inr (.inl (v, M)))))
def mw_rp (P : Prop) (v : Option Value) (M : mw_Mem) : Option mw_Res := some (.inr (.inr (.inr (.inr (P, v, M)))))
/-- a store to a local of one slot is in range, and the local below it isn't of two slots -/
def mw_ok1 (ls : List (Option Value)) (i : Nat) : Bool := decide (i < ls.length) && (match i with
  | 0 => true
  | j + 1 => match ls[j]? with
    | some (some (.long _)) => false
    | some (some (.double _)) => false
    | _ => true)
def mw_ld (ls : List (Option Value)) (i : Nat) : Option Value := match ls[i]? with
  | some (some v) => some v
  | _ => none
def mw_two (f : Int32 → Int32 → Int32) (pc : Nat) (ls : List (Option Value)) (st : List Value) (M : mw_Mem) (c sl : Nat) : Option mw_Res := match st with
  | .int y :: .int x :: r => mw_nx (pc + 1) ls (.int (f x y) :: r) M c sl
  | _ => none
def mw_twol (f : Int64 → Int64 → Int64) (pc : Nat) (ls : List (Option Value)) (st : List Value) (M : mw_Mem) (c sl : Nat) : Option mw_Res := match st with
  | .long y :: .long x :: r => mw_nx (pc + 1) ls (.long (f x y) :: r) M c sl
  | _ => none
def mw_cmp (cd : ClassFile.Cond) (x y : Int32) : Prop := match cd with
  | .eq => x = y
  | .ne => ¬ x = y
  | .lt => x < y
  | .ge => y ≤ x
  | .gt => y < x
  | .le => x ≤ y
/-- the target of a switch over the numbers from lo on -/
def mw_sw (x : Int32) (lo hi : Int) (ts : List Nat) (d : Nat) : Nat := if x.toInt < lo then d else if hi < x.toInt then d else ts.getD (x.toInt - lo).toNat d
/-- where a field is kept: 0 int, 1 long, 2 reference, 3 a small int type -/
def mw_tg (d : String) : Nat := if d = "I" then 0 else if d = "J" then 1 else if d = "Z" then 3 else if d = "B" then 3 else 2
def mw_tag (k j : Nat) : Nat := match vwCl[k]? with
  | some r => mw_tg (r.2.1 j).2.2.1
  | none => 0
def mw_ncell (M : mw_Mem) (q : Nat × Nat) : mw_Mem := (mw_z M.1 M.2.2.2.2.2 0, mw_z M.2.1 M.2.2.2.2.2 0, mw_z M.2.2.1 M.2.2.2.2.2 0, mw_z M.2.2.2.1 M.2.2.2.2.2 none, mw_k M.2.2.2.2.1 M.2.2.2.2.2 (some q), M.2.2.2.2.2 + 1)
def mw_akind (t : ArrayType) : Nat := match t with
  | .int => 20
  | .char => 21
  | .long => 22
  | .double => 23
  | .byte => 24
  | _ => 19
def mw_sI (M : mw_Mem) (a k : Nat) (x : Int32) : mw_Mem := (mw_u M.1 a k x, M.2)
def mw_sL (M : mw_Mem) (a k : Nat) (x : Int64) : mw_Mem := (M.1, mw_u M.2.1 a k x, M.2.2)
def mw_sD (M : mw_Mem) (a k : Nat) (x : UInt64) : mw_Mem := (M.1, M.2.1, mw_u M.2.2.1 a k x, M.2.2.2)
def mw_sR (M : mw_Mem) (a k : Nat) (x : Option Nat) : mw_Mem := (M.1, M.2.1, M.2.2.1, mw_u M.2.2.2.1 a k x, M.2.2.2.2)
def mw_gv (t : Nat) (M : mw_Mem) (a k : Nat) : Value := match t with
  | 1 => .long (M.2.1 a k)
  | 2 => mw_rv (M.2.2.2.1 a k)
  | _ => .int (M.1 a k)
def mw_isref (rt : Option FieldType) : Bool := match rt with
  | some (.object _) => true
  | some (.array _) => true
  | _ => false
def mw_cats (l : List Value) : Nat := (l.map fun v => v.category).sum
/-- ints copied from one row to another -/
def mw_cp (M : mw_Mem) (a b sp dp n : Nat) : mw_Mem := (fun x => if x = b then va_cpy (M.1 a) (M.1 b) sp dp n else M.1 x, M.2)
def mw_zr {α : Type} (f : Nat → Nat → α) (a b : Nat) (v : α) : Nat → Nat → α := fun x y => if a ≤ x ∧ x < b then v else f x y
/-- a row of N rows of K ints -/
def mw_mult (M : mw_Mem) (N K : Nat) : mw_Mem := (mw_zr M.1 M.2.2.2.2.2 (M.2.2.2.2.2 + 1 + N) 0, mw_zr M.2.1 M.2.2.2.2.2 (M.2.2.2.2.2 + 1 + N) 0, mw_zr M.2.2.1 M.2.2.2.2.2 (M.2.2.2.2.2 + 1 + N) 0,
  (fun x y => if x = M.2.2.2.2.2 then (if y < N then some (M.2.2.2.2.2 + 1 + y) else none) else mw_zr M.2.2.2.1 M.2.2.2.2.2 (M.2.2.2.2.2 + 1 + N) none x y), (fun x => if x = M.2.2.2.2.2 then some (26, N) else if M.2.2.2.2.2 ≤ x ∧ x < M.2.2.2.2.2 + 1 + N then some (20, K) else M.2.2.2.2.1 x), M.2.2.2.2.2 + 1 + N)
/-- old things: the bytes of the string constants (places 1000101 ..), of the tables of digits (1000201, 1000202) -/
def mw_oS : List (List Int32) := [[99, 114, 97, 116, 101, 114, 32, 35], [99, 104, 97, 110, 110, 101, 108, 32, 35, 35, 32, 35, 32, 35], [102, 101, 114, 114, 121, 32, 35, 32, 42, 32, 42], [109, 111, 111, 110, 32, 35, 35, 32, 42, 32, 35], [115, 97, 105, 108, 32, 35, 32, 35], [98, 111, 97, 114, 100, 32, 35, 32, 42], [108, 97, 110, 100, 32, 42], [108, 111, 97, 100, 32, 35], [114, 101, 115, 99, 117, 101, 32, 35], [112, 97, 115, 115, 32, 42], [112, 97, 115, 115, 32, 53, 59, 112, 97, 115, 115, 32, 50, 52, 59, 112, 97, 115, 115, 32, 49], [112, 97, 115, 115, 32, 49, 59, 112, 97, 115, 115, 32, 52, 57], [115, 97, 105, 108, 32, 57, 32, 48], [99], [108], [99, 104, 97, 110, 110, 101, 108, 32, 48], [102, 101, 114, 114, 121, 32, 48, 32, 49], [112, 97, 115, 115, 32, 49, 50, 51], [], [108, 111, 97, 100, 32, 48, 59], [99, 114, 97, 116, 101, 114, 32, 120], [109, 111, 111, 110, 32, 48, 49, 32, 53], [122], [99, 114, 97, 116, 101, 114, 32, 52, 59, 99, 114, 97, 116, 101, 114, 32, 51, 59, 99, 114, 97, 116, 101, 114, 32, 57, 59, 99, 104, 97, 110, 110, 101, 108, 32, 48, 49, 32], [32, 53, 59, 99, 104, 97, 110, 110, 101, 108, 32, 49, 50, 32, 51, 32, 57], [102, 101, 114, 114, 121, 32, 48, 32, 53, 32, 52, 48, 59, 109, 111, 111, 110, 32, 48, 50, 32], [32, 52, 59, 109, 111, 111, 110, 32, 48, 50, 32, 50, 52, 32, 50, 59, 109, 111, 111, 110, 32, 48, 49, 32, 51, 48, 32, 56], [32, 52, 59, 109, 111, 111, 110, 32, 48, 50, 32, 50, 52, 32, 50, 59, 109, 111, 111, 110, 32, 48, 49, 32, 51, 48, 32, 49], [48, 62, 49, 120], [32, 48, 32, 49]]
def mw_oL : List Nat := [8, 14, 11, 11, 8, 9, 6, 6, 8, 6, 21, 14, 8, 1, 1, 9, 9, 8, 0, 7, 8, 9, 1, 38, 17, 21, 28, 28, 4, 4]
def mw_oT : List String := ["crater #", "channel ## # #", "ferry # * *", "moon ## * #", "sail # #", "board # *", "land *", "load #", "rescue #", "pass *", "pass 5;pass 24;pass 1", "pass 1;pass 49", "sail 9 0", "c", "l", "channel 0", "ferry 0 1", "pass 123", "", "load 0;", "crater x", "moon 01 5", "z", "crater 4;crater 3;crater 9;channel 01 ", " 5;channel 12 3 9", "ferry 0 5 40;moon 02 ", " 4;moon 02 24 2;moon 01 30 8", " 4;moon 02 24 2;moon 01 30 1", "0>1x", " 0 1"]
/-- where a string constant stands: its class, its place in the pool -/
def mw_oC : List (String × Nat) := [("MoonFerryOffice$CommandText", 64), ("MoonFerryOffice$CommandText", 66), ("MoonFerryOffice$CommandText", 68), ("MoonFerryOffice$CommandText", 70), ("MoonFerryOffice$CommandText", 72), ("MoonFerryOffice$CommandText", 74), ("MoonFerryOffice$CommandText", 76), ("MoonFerryOffice$CommandText", 78), ("MoonFerryOffice$CommandText", 80), ("MoonFerryOffice$CommandText", 82), ("MoonFerryOfficeLaw", 219), ("MoonFerryOfficeLaw", 231), ("MoonFerryOfficeLaw", 239), ("MoonFerryOfficeLaw", 241), ("MoonFerryOfficeLaw", 247), ("MoonFerryOfficeLaw", 249), ("MoonFerryOfficeLaw", 251), ("MoonFerryOfficeLaw", 253), ("MoonFerryOfficeLaw", 255), ("MoonFerryOfficeLaw", 257), ("MoonFerryOfficeLaw", 259), ("MoonFerryOfficeLaw", 261), ("MoonFerryOfficeLaw", 263), ("MoonFerryOfficeLaw", 274), ("MoonFerryOfficeLaw", 282), ("MoonFerryOfficeLaw", 288), ("MoonFerryOfficeLaw", 290), ("MoonFerryOfficeLaw", 295), ("MoonFerryOfficeLaw", 316), ("MoonFerryOfficeLaw", 318)]
def mw_ol (a : Nat) : Nat := if a < 1000131 then mw_oL.getD (a - 1000101) 0 else 100
def mw_ob (a j : Nat) : Int32 := if a < 1000131 then (mw_oS.getD (a - 1000101) []).getD j 0 else if a = 1000201 then Int32.ofNat (48 + j % 10) else Int32.ofNat (48 + j / 10)
def mw_oa (a : Nat) : Bool := (decide (1000101 ≤ a) && decide (a < 1000131)) || (decide (a = 1000201) || decide (a = 1000202))
/-- old bytes copied into a row -/
def mw_cpo (M : mw_Mem) (a b sp dp n : Nat) : mw_Mem := (fun x => if x = b then va_cpy (mw_ob a) (M.1 b) sp dp n else M.1 x, M.2)
/-- one step of a method, but for calls and throws; sc: the script's length and ints -/
def mw_ins (sc : Nat × (Nat → Int32)) (rt : Option FieldType) (q : mw_I) (pc : Nat) (ls : List (Option Value)) (st : List Value) (M : mw_Mem) (c sl : Nat) : Option mw_Res :=
  match q.1 with
  | .iconst _ => mw_nx (pc + 1) ls (.int q.2.2.2.2.2 :: st) M c sl
  | .bipush _ => mw_nx (pc + 2) ls (.int q.2.2.2.2.2 :: st) M c sl
  | .sipush _ => mw_nx (pc + 3) ls (.int q.2.2.2.2.2 :: st) M c sl
  | .ldc _ => if q.2.2.1.1 = 1 then mw_nx (pc + 2) ls (.ref (1000001 + q.2.2.1.2.1) :: st) M c sl else mw_nx (pc + 2) ls (.int q.2.2.2.2.2 :: st) M c sl
  | .ldc_w _ => if q.2.2.1.1 = 1 then mw_nx (pc + 3) ls (.ref (1000001 + q.2.2.1.2.1) :: st) M c sl else mw_nx (pc + 3) ls (.int q.2.2.2.2.2 :: st) M c sl
  | .getstatic _ => match q.2.2.1.1 with
    | 0 => mw_nx (pc + 3) ls (.int 1 :: st) M c sl
    | 1 => mw_nx (pc + 3) ls (.ref 1000201 :: st) M c sl
    | 2 => mw_nx (pc + 3) ls (.ref 1000202 :: st) M c sl
    | 4 => mw_nx (pc + 3) ls (.int 127 :: st) M c sl
    | 5 => mw_nx (pc + 3) ls (.ref 1000400 :: st) M c sl
    | 6 => mw_nx (pc + 3) ls (.ref 1000203 :: st) M c sl
    | _ => mw_nx (pc + 3) ls (.retAddr 0 :: st) M c sl
  | .lconst n => mw_nx (pc + 1) ls (.long (Int64.ofNat n) :: st) M c sl
  | .dconst n => if n = 0 then mw_nx (pc + 1) ls (.double 0 :: st) M c sl else none
  | .fconst n => if n = 0 then mw_nx (pc + 1) ls (.float 0 :: st) M c sl else none
  | .ldc2_w _ => if q.2.2.1.1 = 1 then mw_nx (pc + 3) ls (.double 4609434218613702656 :: st) M c sl else mw_nx (pc + 3) ls (.long q.2.2.2.2.2.toInt64 :: st) M c sl
  | .aconst_null => mw_nx (pc + 1) ls (.null :: st) M c sl
  | .ifnonnull _ => match st with
    | .ref _ :: r => mw_nx q.2.2.1.1 ls r M c sl
    | _ => none
  | .if_acmp cd _ => match cd with
    | .eq => (match st with
      | .ref y :: .ref x :: r => if x = y then mw_nx q.2.2.1.1 ls r M c sl else none
      | _ => none)
    | _ => none
  | .checkcast _ => match st with
    | .ref a :: r => if 1000500 ≤ a ∧ a < 1000756 then mw_nx (pc + 3) ls (.ref a :: r) M c sl else none
    | _ => none
  | .l2i => match st with
    | .long x :: r => mw_nx (pc + 1) ls (.int x.toInt32 :: r) M c sl
    | _ => none
  | .iload_n _ | .iload _ => match mw_ld ls q.2.2.1.1 with
    | some (.int x) => mw_nx (pc + q.2.1) ls (.int x :: st) M c sl
    | _ => none
  | .aload_n _ | .aload _ => match mw_ld ls q.2.2.1.1 with
    | some (.ref x) => mw_nx (pc + q.2.1) ls (.ref x :: st) M c sl
    | _ => none
  | .fload_n _ | .fload _ => match mw_ld ls q.2.2.1.1 with
    | some (.float x) => mw_nx (pc + q.2.1) ls (.float x :: st) M c sl
    | _ => none
  | .dload_n _ | .dload _ => match mw_ld ls q.2.2.1.1 with
    | some (.double x) => mw_nx (pc + q.2.1) ls (.double x :: st) M c sl
    | _ => none
  | .istore_n _ | .istore _ => match st with
    | .int x :: r => if mw_ok1 ls q.2.2.1.1 = true then mw_nx (pc + q.2.1) (ls.set q.2.2.1.1 (some (.int x))) r M c sl else none
    | _ => none
  | .astore_n _ | .astore _ => match st with
    | .ref x :: r => if mw_ok1 ls q.2.2.1.1 = true then mw_nx (pc + q.2.1) (ls.set q.2.2.1.1 (some (.ref x))) r M c sl else none
    | _ => none
  | .fstore_n _ | .fstore _ => match st with
    | .float x :: r => if mw_ok1 ls q.2.2.1.1 = true then mw_nx (pc + q.2.1) (ls.set q.2.2.1.1 (some (.float x))) r M c sl else none
    | _ => none
  | .dstore_n _ | .dstore _ => match st with
    | .double x :: r => if mw_ok1 ls q.2.2.1.1 = true ∧ q.2.2.1.1 + 1 < ls.length then mw_nx (pc + q.2.1) ((ls.set q.2.2.1.1 (some (.double x))).set (q.2.2.1.1 + 1) none) r M c sl else none
    | _ => none
  | .iinc _ _ => match mw_ld ls q.2.2.1.1 with
    | some (.int x) => if mw_ok1 ls q.2.2.1.1 = true then mw_nx (pc + 3) (ls.set q.2.2.1.1 (some (.int (x + q.2.2.2.2.2)))) st M c sl else none
    | _ => none
  | .iadd => mw_two (fun x y => x + y) pc ls st M c sl
  | .isub => mw_two (fun x y => x - y) pc ls st M c sl
  | .imul => mw_two (fun x y => x * y) pc ls st M c sl
  | .iand => mw_two (fun x y => x &&& y) pc ls st M c sl
  | .ior => mw_two (fun x y => x ||| y) pc ls st M c sl
  | .ixor => mw_two (fun x y => x ^^^ y) pc ls st M c sl
  | .ishl => mw_two (fun x y => x <<< (y &&& 31)) pc ls st M c sl
  | .ishr => mw_two (fun x y => x >>> (y &&& 31)) pc ls st M c sl
  | .ladd => mw_twol (fun x y => x + y) pc ls st M c sl
  | .lsub => mw_twol (fun x y => x - y) pc ls st M c sl
  | .lmul => mw_twol (fun x y => x * y) pc ls st M c sl
  | .idiv => match st with
    | .int y :: .int x :: r => mw_nd (¬ y = 0) (pc + 1) ls (.int (x / y) :: r) M c sl
    | _ => none
  | .irem => match st with
    | .int y :: .int x :: r => mw_nd (¬ y = 0) (pc + 1) ls (.int (x - x / y * y) :: r) M c sl
    | _ => none
  | .ineg => match st with
    | .int x :: r => mw_nx (pc + 1) ls (.int (-x) :: r) M c sl
    | _ => none
  | .i2l => match st with
    | .int x :: r => mw_nx (pc + 1) ls (.long x.toInt64 :: r) M c sl
    | _ => none
  | .i2c => match st with
    | .int x :: r => mw_nx (pc + 1) ls (.int (x.toUInt32 % 65536).toInt32 :: r) M c sl
    | _ => none
  | .i2b => match st with
    | .int x :: r => mw_nx (pc + 1) ls (.int x.toInt8.toInt32 :: r) M c sl
    | _ => none
  | .i2d => match st with
    | .int x :: r => mw_nx (pc + 1) ls (.double (FP.i2d x) :: r) M c sl
    | _ => none
  | .i2f => match st with
    | .int x :: r => mw_nx (pc + 1) ls (.float (FP.i2f x) :: r) M c sl
    | _ => none
  | .f2d => match st with
    | .float x :: r => mw_nd (vf_n64 (FP.f2d x)) (pc + 1) ls (.double (FP.f2d x) :: r) M c sl
    | _ => none
  | .ddiv => match st with
    | .double y :: .double x :: r => mw_nd (vf_n64 (FP.ddiv x y)) (pc + 1) ls (.double (FP.ddiv x y) :: r) M c sl
    | _ => none
  | .fdiv => match st with
    | .float y :: .float x :: r => mw_nd (vf_n32 (FP.fdiv x y)) (pc + 1) ls (.float (FP.fdiv x y) :: r) M c sl
    | _ => none
  | .dcmp op => match st with
    | .double y :: .double x :: r => mw_nx (pc + 1) ls (.int (Op.cmpValue (FP.dcmp x y) op) :: r) M c sl
    | _ => none
  | .fcmp op => match st with
    | .float y :: .float x :: r => mw_nx (pc + 1) ls (.int (Op.cmpValue (FP.fcmp x y) op) :: r) M c sl
    | _ => none
  | .lcmp => match st with
    | .long y :: .long x :: r => mw_nx (pc + 1) ls (.int (lg_cmp x y) :: r) M c sl
    | _ => none
  | .dup => match st with
    | .int x :: r => mw_nx (pc + 1) ls (.int x :: .int x :: r) M c sl
    | .ref x :: r => mw_nx (pc + 1) ls (.ref x :: .ref x :: r) M c sl
    | _ => none
  | .dup_x1 => match st with
    | .int x :: .ref y :: r => mw_nx (pc + 1) ls (.int x :: .ref y :: .int x :: r) M c sl
    | .ref x :: .ref y :: r => mw_nx (pc + 1) ls (.ref x :: .ref y :: .ref x :: r) M c sl
    | _ => none
  | .dup2 => match st with
    | .int x :: .ref y :: r => mw_nx (pc + 1) ls (.int x :: .ref y :: .int x :: .ref y :: r) M c sl
    | _ => none
  | .pop => match st with
    | .int _ :: r => mw_nx (pc + 1) ls r M c sl
    | .ref _ :: r => mw_nx (pc + 1) ls r M c sl
    | _ => none
  | .if_icmp cd _ => match st with
    | .int y :: .int x :: r => mw_br (mw_cmp cd x y) q.2.2.1.1 (pc + 3) ls r M c sl
    | _ => none
  | .ifCond cd _ => match st with
    | .int x :: r => mw_br (mw_cmp cd x 0) q.2.2.1.1 (pc + 3) ls r M c sl
    | _ => none
  | .goto _ => mw_nx q.2.2.1.1 ls st M c sl
  | .tableswitch _ lo hi _ => match st with
    | .int x :: r => mw_nx (mw_sw x lo hi q.2.2.2.1 q.2.2.1.1) ls r M c sl
    | _ => none
  | .getfield _ => match st with
    | .ref a :: r => if 1000001 ≤ a ∧ a < 1000031 then (if q.2.2.1.1 = 0 then (match q.2.2.1.2.1 with
      | 0 => mw_nx (pc + 3) ls (.ref (a + 100) :: r) M c sl
      | 1 => mw_nx (pc + 3) ls (.int 0 :: r) M c sl
      | _ => none) else none) else match M.2.2.2.2.1 a with
      | some (k, _) => if k = q.2.2.1.1 then mw_nx (pc + 3) ls (mw_gv q.2.2.1.2.2 M a q.2.2.1.2.1 :: r) M c sl else none
      | none => if (1000500 ≤ a ∧ a < 1000756) ∧ q.2.2.1.1 = 18 ∧ q.2.2.1.2.1 = 0 then mw_nx (pc + 3) ls (.int (Int32.ofNat (a - 1000500) - 128) :: r) M c sl else none
    | _ => none
  | .putfield _ => match st with
    | .int x :: .ref a :: r => match M.2.2.2.2.1 a with
      | some (k, _) => if k = q.2.2.1.1 then (match q.2.2.1.2.2 with
          | 0 => mw_nx (pc + 3) ls r (mw_sI M a q.2.2.1.2.1 x) c sl
          | 3 => mw_nd (x = 0 ∨ x = 1) (pc + 3) ls r (mw_sI M a q.2.2.1.2.1 x) c sl
          | _ => none) else none
      | none => none
    | .long x :: .ref a :: r => match M.2.2.2.2.1 a with
      | some (k, _) => if k = q.2.2.1.1 ∧ q.2.2.1.2.2 = 1 then mw_nx (pc + 3) ls r (mw_sL M a q.2.2.1.2.1 x) c sl else none
      | none => none
    | .ref x :: .ref a :: r => match M.2.2.2.2.1 a with
      | some (k, _) => if k = q.2.2.1.1 ∧ q.2.2.1.2.2 = 2 then mw_nx (pc + 3) ls r (mw_sR M a q.2.2.1.2.1 (some x)) c sl else none
      | none => none
    | _ => none
  | .iaload => match st with
    | .int i :: .ref a :: r => if a = 1000000 then mw_nd (vp_in i sc.1) (pc + 1) ls (.int (sc.2 i.toNatClampNeg) :: r) M c sl else match M.2.2.2.2.1 a with
      | some (k, n) => if k = 20 then mw_nd (vp_in i n) (pc + 1) ls (.int (M.1 a i.toNatClampNeg) :: r) M c sl else none
      | none => none
    | _ => none
  | .caload => match st with
    | .int i :: .ref a :: r => match M.2.2.2.2.1 a with
      | some (k, n) => if k = 21 then mw_nd (vp_in i n) (pc + 1) ls (.int (M.1 a i.toNatClampNeg) :: r) M c sl else none
      | none => none
    | _ => none
  | .baload => match st with
    | .int i :: .ref a :: r => if mw_oa a = true then mw_nd (vp_in i (mw_ol a)) (pc + 1) ls (.int (mw_ob a i.toNatClampNeg) :: r) M c sl else match M.2.2.2.2.1 a with
      | some (k, n) => if k = 24 then mw_nd (vp_in i n) (pc + 1) ls (.int (M.1 a i.toNatClampNeg) :: r) M c sl else none
      | none => none
    | _ => none
  | .laload => match st with
    | .int i :: .ref a :: r => match M.2.2.2.2.1 a with
      | some (k, n) => if k = 22 then mw_nd (vp_in i n) (pc + 1) ls (.long (M.2.1 a i.toNatClampNeg) :: r) M c sl else none
      | none => none
    | _ => none
  | .daload => match st with
    | .int i :: .ref a :: r => match M.2.2.2.2.1 a with
      | some (k, n) => if k = 23 then mw_nd (vp_in i n) (pc + 1) ls (.double (M.2.2.1 a i.toNatClampNeg) :: r) M c sl else none
      | none => none
    | _ => none
  | .aaload => match st with
    | .int i :: .ref a :: r => match M.2.2.2.2.1 a with
      | some (k, n) => if k = 25 ∨ k = 26 then mw_nd (vp_in i n) (pc + 1) ls (mw_rv (M.2.2.2.1 a i.toNatClampNeg) :: r) M c sl else if k = 27 then mw_nd (vp_in i n) (pc + 1) ls (mw_rv (M.2.2.2.1 a i.toNatClampNeg) :: r) M c sl else none
      | none => if a = 1000400 then mw_nd (vp_in i 256) (pc + 1) ls (.ref (1000500 + i.toNatClampNeg) :: r) M c sl else none
    | _ => none
  | .iastore => match st with
    | .int x :: .int i :: .ref a :: r => match M.2.2.2.2.1 a with
      | some (k, n) => if k = 20 then mw_nd (vp_in i n) (pc + 1) ls r (mw_sI M a i.toNatClampNeg x) c sl else none
      | none => none
    | _ => none
  | .castore => match st with
    | .int x :: .int i :: .ref a :: r => match M.2.2.2.2.1 a with
      | some (k, n) => if k = 21 then mw_nd (vp_in i n) (pc + 1) ls r (mw_sI M a i.toNatClampNeg (vp_nar .char x)) c sl else none
      | none => none
    | _ => none
  | .bastore => match st with
    | .int x :: .int i :: .ref a :: r => match M.2.2.2.2.1 a with
      | some (k, n) => if k = 24 then mw_nd (vp_in i n) (pc + 1) ls r (mw_sI M a i.toNatClampNeg (vp_nar .byte x)) c sl else none
      | none => none
    | _ => none
  | .lastore => match st with
    | .long x :: .int i :: .ref a :: r => match M.2.2.2.2.1 a with
      | some (k, n) => if k = 22 then mw_nd (vp_in i n) (pc + 1) ls r (mw_sL M a i.toNatClampNeg x) c sl else none
      | none => none
    | _ => none
  | .dastore => match st with
    | .double x :: .int i :: .ref a :: r => match M.2.2.2.2.1 a with
      | some (k, n) => if k = 23 then mw_nd (vp_in i n) (pc + 1) ls r (mw_sD M a i.toNatClampNeg x) c sl else none
      | none => none
    | _ => none
  | .aastore => match st with
    | .ref x :: .int i :: .ref a :: r => match M.2.2.2.2.1 a, M.2.2.2.2.1 x with
      | some (k, n), some (k', _) => if k = 25 ∧ k' = 12 then mw_nd (vp_in i n) (pc + 1) ls r (mw_sR M a i.toNatClampNeg (some x)) c sl else none
      | some (k, n), none => if k = 27 ∧ 1000500 ≤ x ∧ x < 1000756 then mw_nd (vp_in i n) (pc + 1) ls r (mw_sR M a i.toNatClampNeg (some x)) c sl else none
      | _, _ => none
    | _ => none
  | .arraylength => match st with
    | .ref a :: r => if a = 1000000 then mw_nx (pc + 1) ls (.int (Int32.ofNat sc.1) :: r) M c sl else if mw_oa a = true then mw_nx (pc + 1) ls (.int (Int32.ofNat (mw_ol a)) :: r) M c sl else match M.2.2.2.2.1 a with
      | some (k, n) => if 20 ≤ k ∧ k < 27 then mw_nx (pc + 1) ls (.int (Int32.ofNat n) :: r) M c sl else if k = 27 then mw_nx (pc + 1) ls (.int (Int32.ofNat n) :: r) M c sl else none
      | none => if a = 1000203 then mw_nx (pc + 1) ls (.int 0 :: r) M c sl else none
    | _ => none
  | .new _ => if q.2.2.1.2.2 = 0 ∧ 1 ≤ c ∧ q.2.2.1.2.1 ≤ sl then mw_nx (pc + 3) ls (.ref M.2.2.2.2.2 :: st) (mw_ncell M (q.2.2.1.1, q.2.2.1.2.1)) (c - 1) (sl - q.2.2.1.2.1) else none
  | .newarray t => match st with
    | .int x :: r => if 1 ≤ c then mw_nd (¬ x < 0 ∧ x.toNatClampNeg ≤ 60000000 ∧ x.toNatClampNeg ≤ sl) (pc + 2) ls (.ref M.2.2.2.2.2 :: r) (mw_ncell M (mw_akind t, x.toNatClampNeg)) (c - 1) (sl - x.toNatClampNeg) else none
    | _ => none
  | .anewarray _ => match st with
    | .int x :: r => if 1 ≤ c then mw_nd (¬ x < 0 ∧ x.toNatClampNeg ≤ 60000000 ∧ x.toNatClampNeg ≤ sl) (pc + 3) ls (.ref M.2.2.2.2.2 :: r) (mw_ncell M (if q.2.2.1.1 = 1 then 27 else 25, x.toNatClampNeg)) (c - 1) (sl - x.toNatClampNeg) else none
    | _ => none
  | .invokespecial _ => if q.2.2.1.2.1 = 8 ∧ mw_cats st ≤ 9 then (match st with
    | .ref _ :: r => mw_nx (pc + 3) ls r M c sl
    | _ => none) else none
  | .invokestatic _ => if q.2.2.1.2.1 = 9 ∧ mw_cats st ≤ 13 then (match st with
    | .int n :: .int dp :: .ref b :: .int sp :: .ref a :: r => match M.2.2.2.2.1 a, M.2.2.2.2.1 b with
      | some (k0, n0), some (k1, n1) => if (k0 = 20 ∧ k1 = 20) ∨ (k0 = 24 ∧ k1 = 24) then mw_nd (¬ sp < 0 ∧ ¬ dp < 0 ∧ ¬ n < 0 ∧ sp.toNatClampNeg + n.toNatClampNeg ≤ n0 ∧ dp.toNatClampNeg + n.toNatClampNeg ≤ n1 ∧ (k0 = 24 → ∀ i : Nat, i < n.toNatClampNeg → fits .byte (.int (M.1 a (sp.toNatClampNeg + i))) = true)) (pc + 3) ls r (mw_cp M a b sp.toNatClampNeg dp.toNatClampNeg n.toNatClampNeg) c sl else none
      | none, some (k1, n1) => if mw_oa a = true ∧ k1 = 24 then mw_nd (¬ sp < 0 ∧ ¬ dp < 0 ∧ ¬ n < 0 ∧ sp.toNatClampNeg + n.toNatClampNeg ≤ mw_ol a ∧ dp.toNatClampNeg + n.toNatClampNeg ≤ n1 ∧ ∀ i : Nat, i < n.toNatClampNeg → fits .byte (.int (mw_ob a (sp.toNatClampNeg + i))) = true) (pc + 3) ls r (mw_cpo M a b sp.toNatClampNeg dp.toNatClampNeg n.toNatClampNeg) c sl else none
      | _, _ => none
    | _ => none) else none
  | .multianewarray _ _ => match st with
    | .int y :: .int x :: r => mw_nd (¬ x < 0 ∧ ¬ y < 0 ∧ x.toNatClampNeg ≤ 60000000 ∧ y.toNatClampNeg ≤ 60000000 ∧ 1 + x.toNatClampNeg ≤ c ∧ x.toNatClampNeg + x.toNatClampNeg * y.toNatClampNeg ≤ sl) (pc + 4) ls (.ref M.2.2.2.2.2 :: r) (mw_mult M x.toNatClampNeg y.toNatClampNeg) (c - (1 + x.toNatClampNeg)) (sl - (x.toNatClampNeg + x.toNatClampNeg * y.toNatClampNeg))
    | _ => none
  | .ireturn => match st with
    | [.int x] => if rt = some .int then mw_rt (some (.int x)) M else mw_rp (∃ ty : FieldType, rt = some ty ∧ narrow ty (.int x) = .int x) (some (.int x)) M
    | _ => none
  | .lreturn => match st with
    | [.long x] => if rt = some .long then mw_rt (some (.long x)) M else none
    | _ => none
  | .freturn => match st with
    | [.float x] => if rt = some .float then mw_rt (some (.float x)) M else none
    | _ => none
  | .dreturn => match st with
    | [.double x] => if rt = some .double then mw_rt (some (.double x)) M else none
    | _ => none
  | .areturn => match st with
    | [.ref x] => if mw_isref rt = true then mw_rt (some (.ref x)) M else none
    | _ => none
  | .return_ => match st with
    | [] => if rt = none then mw_rt none M else none
    | _ => none
  | _ => none
def mw_stp (sc : Nat × (Nat → Int32)) (cd : mw_CD) (f : mw_Fr) : Option mw_Res := match mw_lk cd f.1 with
  | some q => mw_ins sc cd.2.2.2.1 q f.1 f.2.1 f.2.2.1 f.2.2.2.1 f.2.2.2.2.1 f.2.2.2.2.2
  | none => none
def mw_app (r : Option mw_Res) (K : mw_Fr → Prop) (Qr : Option Value → mw_Mem → Prop) : Prop := match r with
  | none => False
  | some (.inl f) => K f
  | some (.inr (.inl q)) => (q.1 → K q.2.1) ∧ (¬ q.1 → K q.2.2)
  | some (.inr (.inr (.inl q))) => q.1 ∧ K q.2
  | some (.inr (.inr (.inr (.inl q)))) => Qr q.1 q.2
  | some (.inr (.inr (.inr (.inr q)))) => q.1 ∧ Qr q.2.1 q.2.2
theorem mw_app_mono {r : Option mw_Res} {K K' : mw_Fr → Prop} {Qr : Option Value → mw_Mem → Prop} (h : ∀ f, K f → K' f) (a : mw_app r K Qr) : mw_app r K' Qr := by
  match r, a with
  | some (.inl f), a => exact h f a
  | some (.inr (.inl q)), a => exact ⟨fun z => h _ (a.1 z), fun z => h _ (a.2 z)⟩
  | some (.inr (.inr (.inl q))), a => exact ⟨a.1, h _ a.2⟩
  | some (.inr (.inr (.inr (.inl q)))), a => exact a
  | some (.inr (.inr (.inr (.inr q)))), a => exact a
/-- several steps -/
def mw_adv (sc : Nat × (Nat → Int32)) (cd : mw_CD) : Nat → mw_Fr → (mw_Fr → Prop) → (Option Value → mw_Mem → Prop) → Prop
  | 0, f, K, _ => K f
  | n + 1, f, K, Qr => mw_app (mw_stp sc cd f) (fun g => mw_adv sc cd n g K Qr) Qr
def mw_exn (e : Nat) : String := match e with
  | 0 => "java/lang/IndexOutOfBoundsException"
  | 1 => "java/lang/IllegalArgumentException"
  | 2 => "java/lang/IllegalStateException"
  | 3 => "java/lang/UnsupportedOperationException"
  | 4 => "java/util/NoSuchElementException"
  | _ => "java/lang/ArithmeticException"
def mw_hfind : List (Nat × Nat × Nat × Nat × Nat) → Nat → Nat → Option Nat
  | [], _, _ => none
  | h :: r, pc, e => if h.1 ≤ pc ∧ pc < h.2.1 ∧ h.2.2.1 = e then some h.2.2.2.1 else mw_hfind r pc e
abbrev mw_PX : Type := mw_CD → Nat → mw_Fr → (Option Value → mw_Mem → Prop) → (Nat → mw_Mem → Prop) → Prop
/-! calls, throws, fewer known locals; what holds when the method has ended -/
def mw_sN (M : mw_Mem) (n : Nat) : mw_Mem := (M.1, M.2.1, M.2.2.1, M.2.2.2.1, M.2.2.2.2.1, n)
def mw_entry (nL : Nat) (args : List Value) : List (Option Value) := args.map some ++ List.replicate (nL - args.length) none
/-- the receiver of a virtual call is an object of the class it is called on -/
def mw_recv (q : mw_I) (st : List Value) (M : mw_Mem) : Prop := match q.1 with
  | .invokevirtual _ => (∃ a n, st[q.2.2.1.1 - 1]? = some (.ref a) ∧ M.2.2.2.2.1 a = some (q.2.2.1.2.2, n)) ∨ (q.2.2.1.2.2 = 0 ∧ ∃ a, st[q.2.2.1.1 - 1]? = some (.ref a) ∧ 1000001 ≤ a ∧ a < 1000031) ∨ (q.2.2.1.2.2 = 18 ∧ ∃ a, st[q.2.2.1.1 - 1]? = some (.ref a) ∧ 1000500 ≤ a ∧ a < 1000756)
  | .invokeinterface _ _ => ∃ a n, st[q.2.2.1.1 - 1]? = some (.ref a) ∧ M.2.2.2.2.1 a = some (q.2.2.1.2.2, n)
  | .invokespecial _ => ∃ a, st[q.2.2.1.1 - 1]? = some (.ref a) ∧ (q.2.2.1.2.1 = 6 → ∃ n, M.2.2.2.2.1 a = some (q.2.2.1.2.2, n))
  | _ => True
def mw_isinv (i : Instr) : Bool := match i with
  | .invokevirtual _ => true
  | .invokespecial _ => true
  | .invokestatic _ => true
  | _ => false
def mw_isinvX (i : Instr) : Bool := match i with
  | .invokevirtual _ => true
  | .invokespecial _ => true
  | .invokestatic _ => true
  | .invokeinterface _ _ => true
  | _ => false
/-! a memory moved up, part of another; put back -/
def mw_up (off a : Nat) : Nat := if a < 1000000 then (if a + off < 1000000 then a + off else a + off + 1000000) else if a < 2000000 then a else a + off
def mw_upV (off : Nat) (v : Value) : Value := match v with
  | .ref a => .ref (mw_up off a)
  | .int x => .int x
  | .long x => .long x
  | .float x => .float x
  | .double x => .double x
  | .null => .null
  | .retAddr a => .retAddr a
/-- N, moved up by off, is part of M -/
def mw_sub (off : Nat) (N M : mw_Mem) : Prop := M.2.2.2.2.2 = N.2.2.2.2.2 + off ∧ ∀ (a : Nat) (q : Nat × Nat), N.2.2.2.2.1 a = some q → M.2.2.2.2.1 (a + off) = some q ∧ a + off < 1000000 ∧ M.1 (a + off) = N.1 a ∧ M.2.1 (a + off) = N.2.1 a ∧ M.2.2.1 (a + off) = N.2.2.1 a ∧ ∀ k, M.2.2.2.1 (a + off) k = (N.2.2.2.1 a k).map (mw_up off)
/-- what a call that sees N may write: N's places and new ones -/
def mw_dom (off : Nat) (M N : mw_Mem) (x : Nat) : Bool := decide (off ≤ x) && ((N.2.2.2.2.1 (x - off)).isSome || decide (M.2.2.2.2.2 ≤ x))
/-- M, where N's part has become K -/
def mw_join (off : Nat) (M N K : mw_Mem) : mw_Mem := ((fun x => if mw_dom off M N x = true then K.1 (x - off) else M.1 x), (fun x => if mw_dom off M N x = true then K.2.1 (x - off) else M.2.1 x), (fun x => if mw_dom off M N x = true then K.2.2.1 (x - off) else M.2.2.1 x), (fun x k => if mw_dom off M N x = true then (K.2.2.2.1 (x - off) k).map (mw_up off) else M.2.2.2.1 x k), (fun x => if mw_dom off M N x = true then (if x < 1000000 then K.2.2.2.2.1 (x - off) else none) else M.2.2.2.2.1 x), K.2.2.2.2.2 + off)
def mw_isnew (i : Instr) : Bool := match i with
  | .new _ => true
  | _ => false
def mw_call (Good : mw_CD → Prop) (X : mw_PX) (cd : mw_CD) (d : Nat) (f : mw_Fr) (Qr : Option Value → mw_Mem → Prop) (Qx : Nat → mw_Mem → Prop) : Prop :=
  ∃ (q : mw_I) (cd' : mw_CD) (d' mc ms : Nat) (Q1 : Option Value → mw_Mem → Prop) (X1 : Nat → mw_Mem → Prop),
    mw_lk cd f.1 = some q ∧ mw_isinv q.1 = true ∧ q.2.2.1.2.1 < 8 ∧ q.2.2.2.2.1 = cd'.1 ∧ Good cd' ∧ d = d' + 1 ∧ mc ≤ f.2.2.2.2.1 ∧ ms ≤ f.2.2.2.2.2 ∧ q.2.2.1.1 ≤ f.2.2.1.length ∧ mw_recv q f.2.2.1 f.2.2.2.1 ∧ (mw_cats (f.2.2.1.drop q.2.2.1.1) ≤ 8 ∧ (f.2.2.1.take q.2.2.1.1).all (fun v => decide (v.category = 1)) = true ∧ q.2.2.1.1 ≤ cd'.2.2.1 ∧ ((q.2.2.1.2.1 = 5 ∧ cd'.2.2.2.2.2.isEmpty = false) ∨ (¬ q.2.2.1.2.1 = 5 ∧ cd'.2.2.2.2.2.isEmpty = true))) ∧
    X cd' d' (0, mw_entry cd'.2.2.1 (f.2.2.1.take q.2.2.1.1).reverse, [], f.2.2.2.1, mc, ms) Q1 X1 ∧
    (∀ v M', Q1 v M' → X cd d (f.1 + 3, f.2.1, v.toList ++ f.2.2.1.drop q.2.2.1.1, M', f.2.2.2.2.1 - mc, f.2.2.2.2.2 - ms) Qr Qx) ∧
    (∀ e M', X1 e M' → match mw_hfind cd.2.2.2.2.2 f.1 e with
      | some k => Qr (some (.int (Int32.ofNat k))) M'
      | none => Qx e M')
/-- a call that sees a part of the memory, moved down -/
def mw_callX (Good : mw_CD → Prop) (X : mw_PX) (cd : mw_CD) (d : Nat) (f : mw_Fr) (Qr : Option Value → mw_Mem → Prop) (Qx : Nat → mw_Mem → Prop) : Prop :=
  ∃ (q : mw_I) (cd' : mw_CD) (d' mc ms : Nat) (Q1 : Option Value → mw_Mem → Prop) (X1 : Nat → mw_Mem → Prop) (off : Nat) (N : mw_Mem) (As : List Value),
    mw_lk cd f.1 = some q ∧ mw_isinvX q.1 = true ∧ q.2.2.1.2.1 < 8 ∧ q.2.2.2.2.1 = cd'.1 ∧ Good cd' ∧ d = d' + 1 ∧ mc ≤ f.2.2.2.2.1 ∧ ms ≤ f.2.2.2.2.2 ∧ q.2.2.1.1 ≤ f.2.2.1.length ∧ mw_recv q f.2.2.1 f.2.2.2.1 ∧ (mw_cats (f.2.2.1.drop q.2.2.1.1) ≤ 8 ∧ (f.2.2.1.take q.2.2.1.1).all (fun v => decide (v.category = 1)) = true ∧ q.2.2.1.1 ≤ cd'.2.2.1 ∧ ((q.2.2.1.2.1 = 5 ∧ cd'.2.2.2.2.2.isEmpty = false) ∨ (¬ q.2.2.1.2.1 = 5 ∧ cd'.2.2.2.2.2.isEmpty = true))) ∧
    (f.2.2.1.take q.2.2.1.1).reverse = As.map (mw_upV off) ∧ mw_sub off N f.2.2.2.1 ∧
    X cd' d' (0, mw_entry cd'.2.2.1 As, [], N, mc, ms) Q1 X1 ∧
    (∀ v N', Q1 v N' → X cd d (f.1 + q.2.1, f.2.1, (v.map (mw_upV off)).toList ++ f.2.2.1.drop q.2.2.1.1, mw_join off f.2.2.2.1 N N', f.2.2.2.2.1 - mc, f.2.2.2.2.2 - ms) Qr Qx) ∧
    (∀ e N', X1 e N' → match mw_hfind cd.2.2.2.2.2 f.1 e with
      | some k => Qr (some (.int (Int32.ofNat k))) (mw_join off f.2.2.2.1 N N')
      | none => Qx e (mw_join off f.2.2.2.1 N N'))
/-- what is in the memory may be forgotten -/
def mw_fgt (X : mw_PX) (cd : mw_CD) (d : Nat) (f : mw_Fr) (Qr : Option Value → mw_Mem → Prop) (Qx : Nat → mw_Mem → Prop) : Prop :=
  ∃ N : mw_Mem, mw_sub 0 N f.2.2.2.1 ∧ X cd d (f.1, f.2.1, f.2.2.1, N, f.2.2.2.2.1, f.2.2.2.2.2) Qr Qx
def mw_thr (cd : mw_CD) (f : mw_Fr) (Qx : Nat → mw_Mem → Prop) : Prop :=
  ∃ q : mw_I, mw_lk cd f.1 = some q ∧ mw_isnew q.1 = true ∧ q.2.2.1.2.2 = 1 ∧ 1 ≤ f.2.2.2.2.1 ∧ 6 ≤ f.2.2.2.2.2 ∧ mw_cats f.2.2.1 ≤ 8 ∧ cd.2.2.2.2.2.isEmpty = true ∧ ∀ n', f.2.2.2.1.2.2.2.2.2 ≤ n' → Qx q.2.2.1.1 (mw_sN f.2.2.2.1 n')
def mw_wk (X : mw_PX) (cd : mw_CD) (d : Nat) (f : mw_Fr) (Qr : Option Value → mw_Mem → Prop) (Qx : Nat → mw_Mem → Prop) : Prop :=
  ∃ (d' : Nat) (ls' : List (Option Value)) (c' s' : Nat), d' ≤ d ∧ ls'.length = f.2.1.length ∧ (∀ (i : Nat) (v : Value), ls'[i]? = some (some v) → f.2.1[i]? = some (some v)) ∧ c' ≤ f.2.2.2.2.1 ∧ s' ≤ f.2.2.2.2.2 ∧ X cd d' (f.1, ls', f.2.2.1, f.2.2.2.1, c', s') Qr Qx
/-- one rule: a step, a call, a throw, less known, or that there are not too many places -/
def mw_F (sc : Nat × (Nat → Int32)) (Good : mw_CD → Prop) (X : mw_PX) : mw_PX := fun cd d f Qr Qx =>
  mw_app (mw_stp sc cd f) (fun g => X cd d g Qr Qx) Qr ∨ mw_call Good X cd d f Qr Qx ∨ mw_thr cd f Qx ∨ mw_wk X cd d f Qr Qx ∨ (f.2.2.2.1.2.2.2.2.2 ≤ 990000 → X cd d f Qr Qx) ∨ mw_callX Good X cd d f Qr Qx ∨ mw_fgt X cd d f Qr Qx
/-- the least that holds by these rules -/
def mw_Wp (sc : Nat × (Nat → Int32)) (Good : mw_CD → Prop) : mw_PX := fun cd d f Qr Qx => ∀ X : mw_PX, (∀ cd d f Qr Qx, mw_F sc Good X cd d f Qr Qx → X cd d f Qr Qx) → X cd d f Qr Qx
section
variable {sc : Nat × (Nat → Int32)} {Good : mw_CD → Prop} {cd : mw_CD} {d : Nat} {f : mw_Fr} {Qr : Option Value → mw_Mem → Prop} {Qx : Nat → mw_Mem → Prop}
theorem mw_F_mono {X Y : mw_PX} (h : ∀ cd d f Qr Qx, X cd d f Qr Qx → Y cd d f Qr Qx) (a : mw_F sc Good X cd d f Qr Qx) : mw_F sc Good Y cd d f Qr Qx := by
  rcases a with a | a | a | a | a | a | a
  · exact Or.inl (mw_app_mono (fun g k => h _ _ _ _ _ k) a)
  · obtain ⟨q, cd', d', mc, ms, Q1, X1, h1, h2, h3, h4, h5, h6, h7, h8, h9, h10, h11, a1, a2, a3⟩ := a
    exact Or.inr (Or.inl ⟨q, cd', d', mc, ms, Q1, X1, h1, h2, h3, h4, h5, h6, h7, h8, h9, h10, h11, h _ _ _ _ _ a1, fun v M' k => h _ _ _ _ _ (a2 v M' k), a3⟩)
  · exact Or.inr (Or.inr (Or.inl a))
  · obtain ⟨d', ls', c', s', h1, h2, h3, h4, h5, a1⟩ := a
    exact Or.inr (Or.inr (Or.inr (Or.inl ⟨d', ls', c', s', h1, h2, h3, h4, h5, h _ _ _ _ _ a1⟩)))
  · exact Or.inr (Or.inr (Or.inr (Or.inr (Or.inl (fun k => h _ _ _ _ _ (a k))))))
  · obtain ⟨q, cd', d', mc, ms, Q1, X1, off, N, As, h1, h2, h3, h4, h5, h6, h7, h8, h9, h10, h11, h12, h13, a1, a2, a3⟩ := a
    exact Or.inr (Or.inr (Or.inr (Or.inr (Or.inr (Or.inl ⟨q, cd', d', mc, ms, Q1, X1, off, N, As, h1, h2, h3, h4, h5, h6, h7, h8, h9, h10, h11, h12, h13, h _ _ _ _ _ a1, fun v N' k => h _ _ _ _ _ (a2 v N' k), a3⟩)))))
  · obtain ⟨N, h1, a1⟩ := a
    exact Or.inr (Or.inr (Or.inr (Or.inr (Or.inr (Or.inr ⟨N, h1, h _ _ _ _ _ a1⟩)))))
theorem mw_Wp.in (a : mw_F sc Good (mw_Wp sc Good) cd d f Qr Qx) : mw_Wp sc Good cd d f Qr Qx := fun X hX => hX _ _ _ _ _ (mw_F_mono (fun _ _ _ _ _ k => k X hX) a)
theorem mw_Wp.adv (n : Nat) (a : mw_adv sc cd n f (fun g => mw_Wp sc Good cd d g Qr Qx) Qr) : mw_Wp sc Good cd d f Qr Qx := by
  induction n generalizing f with
  | zero => exact a
  | succ n ih => exact mw_Wp.in (Or.inl (mw_app_mono (fun g k => ih k) a))
theorem mw_Wp.call (q : mw_I) (cd' : mw_CD) (d' mc ms : Nat) (Q1 : Option Value → mw_Mem → Prop) (X1 : Nat → mw_Mem → Prop) (h1 : mw_lk cd f.1 = some q) (h2 : mw_isinv q.1 = true) (h3 : q.2.2.1.2.1 < 8) (h4 : q.2.2.2.2.1 = cd'.1) (h5 : Good cd') (h6 : d = d' + 1) (h7 : mc ≤ f.2.2.2.2.1) (h8 : ms ≤ f.2.2.2.2.2) (h9 : q.2.2.1.1 ≤ f.2.2.1.length) (h10 : mw_recv q f.2.2.1 f.2.2.2.1) (h11 : mw_cats (f.2.2.1.drop q.2.2.1.1) ≤ 8 ∧ (f.2.2.1.take q.2.2.1.1).all (fun v => decide (v.category = 1)) = true ∧ q.2.2.1.1 ≤ cd'.2.2.1 ∧ ((q.2.2.1.2.1 = 5 ∧ cd'.2.2.2.2.2.isEmpty = false) ∨ (¬ q.2.2.1.2.1 = 5 ∧ cd'.2.2.2.2.2.isEmpty = true)))
    (a1 : mw_Wp sc Good cd' d' (0, mw_entry cd'.2.2.1 (f.2.2.1.take q.2.2.1.1).reverse, [], f.2.2.2.1, mc, ms) Q1 X1)
    (a2 : ∀ v M', Q1 v M' → mw_Wp sc Good cd d (f.1 + 3, f.2.1, v.toList ++ f.2.2.1.drop q.2.2.1.1, M', f.2.2.2.2.1 - mc, f.2.2.2.2.2 - ms) Qr Qx)
    (a3 : ∀ e M', X1 e M' → match mw_hfind cd.2.2.2.2.2 f.1 e with
      | some k => Qr (some (.int (Int32.ofNat k))) M'
      | none => Qx e M') : mw_Wp sc Good cd d f Qr Qx :=
  mw_Wp.in (Or.inr (Or.inl ⟨q, cd', d', mc, ms, Q1, X1, h1, h2, h3, h4, h5, h6, h7, h8, h9, h10, h11, a1, a2, a3⟩))
theorem mw_Wp.thr (a : mw_thr cd f Qx) : mw_Wp sc Good cd d f Qr Qx := mw_Wp.in (Or.inr (Or.inr (Or.inl a)))
theorem mw_Wp.wk (d' : Nat) (ls' : List (Option Value)) (c' s' : Nat) (h1 : d' ≤ d) (h2 : ls'.length = f.2.1.length) (h3 : ∀ (i : Nat) (v : Value), ls'[i]? = some (some v) → f.2.1[i]? = some (some v)) (h4 : c' ≤ f.2.2.2.2.1) (h5 : s' ≤ f.2.2.2.2.2) (a : mw_Wp sc Good cd d' (f.1, ls', f.2.2.1, f.2.2.2.1, c', s') Qr Qx) : mw_Wp sc Good cd d f Qr Qx :=
  mw_Wp.in (Or.inr (Or.inr (Or.inr (Or.inl ⟨d', ls', c', s', h1, h2, h3, h4, h5, a⟩))))
theorem mw_Wp.fact (a : f.2.2.2.1.2.2.2.2.2 ≤ 990000 → mw_Wp sc Good cd d f Qr Qx) : mw_Wp sc Good cd d f Qr Qx :=
  mw_Wp.in (Or.inr (Or.inr (Or.inr (Or.inr (Or.inl a)))))
theorem mw_Wp.callX (q : mw_I) (cd' : mw_CD) (d' mc ms : Nat) (Q1 : Option Value → mw_Mem → Prop) (X1 : Nat → mw_Mem → Prop) (off : Nat) (N : mw_Mem) (As : List Value) (h1 : mw_lk cd f.1 = some q) (h2 : mw_isinvX q.1 = true) (h3 : q.2.2.1.2.1 < 8) (h4 : q.2.2.2.2.1 = cd'.1) (h5 : Good cd') (h6 : d = d' + 1) (h7 : mc ≤ f.2.2.2.2.1) (h8 : ms ≤ f.2.2.2.2.2) (h9 : q.2.2.1.1 ≤ f.2.2.1.length) (h10 : mw_recv q f.2.2.1 f.2.2.2.1) (h11 : mw_cats (f.2.2.1.drop q.2.2.1.1) ≤ 8 ∧ (f.2.2.1.take q.2.2.1.1).all (fun v => decide (v.category = 1)) = true ∧ q.2.2.1.1 ≤ cd'.2.2.1 ∧ ((q.2.2.1.2.1 = 5 ∧ cd'.2.2.2.2.2.isEmpty = false) ∨ (¬ q.2.2.1.2.1 = 5 ∧ cd'.2.2.2.2.2.isEmpty = true)))
    (h12 : (f.2.2.1.take q.2.2.1.1).reverse = As.map (mw_upV off)) (h13 : mw_sub off N f.2.2.2.1)
    (a1 : mw_Wp sc Good cd' d' (0, mw_entry cd'.2.2.1 As, [], N, mc, ms) Q1 X1)
    (a2 : ∀ v N', Q1 v N' → mw_Wp sc Good cd d (f.1 + q.2.1, f.2.1, (v.map (mw_upV off)).toList ++ f.2.2.1.drop q.2.2.1.1, mw_join off f.2.2.2.1 N N', f.2.2.2.2.1 - mc, f.2.2.2.2.2 - ms) Qr Qx)
    (a3 : ∀ e N', X1 e N' → match mw_hfind cd.2.2.2.2.2 f.1 e with
      | some k => Qr (some (.int (Int32.ofNat k))) (mw_join off f.2.2.2.1 N N')
      | none => Qx e (mw_join off f.2.2.2.1 N N')) : mw_Wp sc Good cd d f Qr Qx :=
  mw_Wp.in (Or.inr (Or.inr (Or.inr (Or.inr (Or.inr (Or.inl ⟨q, cd', d', mc, ms, Q1, X1, off, N, As, h1, h2, h3, h4, h5, h6, h7, h8, h9, h10, h11, h12, h13, a1, a2, a3⟩))))))
theorem mw_Wp.fgt (N : mw_Mem) (h1 : mw_sub 0 N f.2.2.2.1) (a : mw_Wp sc Good cd d (f.1, f.2.1, f.2.2.1, N, f.2.2.2.2.1, f.2.2.2.2.2) Qr Qx) : mw_Wp sc Good cd d f Qr Qx :=
  mw_Wp.in (Or.inr (Or.inr (Or.inr (Or.inr (Or.inr (Or.inr ⟨N, h1, a⟩))))))
theorem mw_Wp.mono {Qr' : Option Value → mw_Mem → Prop} {Qx' : Nat → mw_Mem → Prop} (a : mw_Wp sc Good cd d f Qr Qx) (hr : ∀ v M, Qr v M → Qr' v M) (hx : ∀ e M, Qx e M → Qx' e M) : mw_Wp sc Good cd d f Qr' Qx' := by
  refine a (fun cd d f Qr Qx => ∀ Qr' Qx', (∀ v M, Qr v M → Qr' v M) → (∀ e M, Qx e M → Qx' e M) → mw_Wp sc Good cd d f Qr' Qx') ?_ Qr' Qx' hr hx
  intro cd d f Qr Qx h Qr' Qx' hr hx
  refine mw_Wp.in ?_
  rcases h with a | a | a | a | a | a | a
  · refine Or.inl ?_
    revert a
    generalize mw_stp sc cd f = r
    intro a
    match r, a with
    | some (.inl f), a => exact a _ _ hr hx
    | some (.inr (.inl q)), a => exact ⟨fun z => a.1 z _ _ hr hx, fun z => a.2 z _ _ hr hx⟩
    | some (.inr (.inr (.inl q))), a => exact ⟨a.1, a.2 _ _ hr hx⟩
    | some (.inr (.inr (.inr (.inl q)))), a => exact hr _ _ a
    | some (.inr (.inr (.inr (.inr q)))), a => exact ⟨a.1, hr _ _ a.2⟩
  · obtain ⟨q, cd', d', mc, ms, Q1, X1, h1, h2, h3, h4, h5, h6, h7, h8, h9, h10, h11, a1, a2, a3⟩ := a
    refine Or.inr (Or.inl ⟨q, cd', d', mc, ms, Q1, X1, h1, h2, h3, h4, h5, h6, h7, h8, h9, h10, h11, a1 _ _ (fun _ _ k => k) (fun _ _ k => k), fun v M' k => a2 v M' k _ _ hr hx, fun e M' k => ?_⟩)
    have h := a3 e M' k
    revert h
    cases mw_hfind cd.2.2.2.2.2 f.1 e with
    | none => exact fun h => hx _ _ h
    | some k => exact fun h => hr _ _ h
  · obtain ⟨q, h1, h2, h3, h4, h5, h6, h8, h7⟩ := a
    exact Or.inr (Or.inr (Or.inl ⟨q, h1, h2, h3, h4, h5, h6, h8, fun n' hn => hx _ _ (h7 n' hn)⟩))
  · obtain ⟨d', ls', c', s', h1, h2, h3, h4, h5, a1⟩ := a
    exact Or.inr (Or.inr (Or.inr (Or.inl ⟨d', ls', c', s', h1, h2, h3, h4, h5, a1 _ _ hr hx⟩)))
  · exact Or.inr (Or.inr (Or.inr (Or.inr (Or.inl (fun k => a k _ _ hr hx)))))
  · obtain ⟨q, cd', d', mc, ms, Q1, X1, off, N, As, h1, h2, h3, h4, h5, h6, h7, h8, h9, h10, h11, h12, h13, a1, a2, a3⟩ := a
    refine Or.inr (Or.inr (Or.inr (Or.inr (Or.inr (Or.inl ⟨q, cd', d', mc, ms, Q1, X1, off, N, As, h1, h2, h3, h4, h5, h6, h7, h8, h9, h10, h11, h12, h13, a1 _ _ (fun _ _ k => k) (fun _ _ k => k), fun v N' k => a2 v N' k _ _ hr hx, fun e N' k => ?_⟩)))))
    have h := a3 e N' k
    revert h
    cases mw_hfind cd.2.2.2.2.2 f.1 e with
    | none => exact fun h => hx _ _ h
    | some k => exact fun h => hr _ _ h
  · obtain ⟨N, h1, a1⟩ := a
    exact Or.inr (Or.inr (Or.inr (Or.inr (Or.inr (Or.inr ⟨N, h1, a1 _ _ hr hx⟩)))))
end
