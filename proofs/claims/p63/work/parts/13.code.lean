/-! the code of the methods, by program out of the decode rows and the tables -/
def mw_nm : MethodName := ⟨"", "", ""⟩
def mw_a (i : Instr) (n : Nat) : mw_I := (i, n, (0, 0, 0), [], mw_nm, 0)
def mw_b (i : Instr) (n r : Nat) : mw_I := (i, n, (r, 0, 0), [], mw_nm, 0)
def mw_c (i : Instr) (n : Nat) (k : Int32) : mw_I := (i, n, (0, 0, 0), [], mw_nm, k)
def mw_f (i : Instr) (c k t j : Nat) : mw_I := (i, 3, (c, k, t), [j], mw_nm, 0)
def p_J9_floorMod_7cf53 : mw_Code := [[(0, mw_b (.iload_n 0) 1 0), (1, mw_b (.iload_n 1) 1 1), (2, mw_a (.irem) 1), (3, mw_b (.istore_n 2) 1 2), (4, mw_b (.iload_n 0) 1 0), (5, mw_b (.iload_n 1) 1 1), (6, mw_a (.ixor) 1), (7, mw_b (.ifCond .ge 11) 3 18), (10, mw_b (.iload_n 2) 1 2), (11, mw_b (.ifCond .eq 7) 3 18), (14, mw_b (.iload_n 2) 1 2), (15, mw_b (.iload_n 1) 1 1), (16, mw_a (.iadd) 1), (17, mw_a (.ireturn) 1), (18, mw_b (.iload_n 2) 1 2), (19, mw_a (.ireturn) 1)]]
def d_J9_floorMod_7cf53 : mw_CD := (yJ9_floorMod_7cf53, cJ9_floorMod_7cf53, 3, (some .int), p_J9_floorMod_7cf53, [])
set_option maxRecDepth 100000 in
theorem g_J9_floorMod_7cf53 : mw_Good d_J9_floorMod_7cf53 := ⟨by decide +kernel, Jvm.Free.JP.mathPlain rfl (by decide +kernel), by decide, mw_wd_in (i := 1027) (by decide +kernel), ⟨by decide +kernel, by decide +kernel⟩, by decide +kernel, [], by decide +kernel, mw_wd_in (i := 3139) (by decide +kernel)⟩
def p_J9_max_7cf53 : mw_Code := [[(0, mw_b (.iload_n 0) 1 0), (1, mw_b (.iload_n 1) 1 1), (2, mw_b (.if_icmp .lt 7) 3 9), (5, mw_b (.iload_n 0) 1 0), (6, mw_b (.goto 4) 3 10), (9, mw_b (.iload_n 1) 1 1), (10, mw_a (.ireturn) 1)]]
def d_J9_max_7cf53 : mw_CD := (yJ9_max_7cf53, cJ9_max_7cf53, 2, (some .int), p_J9_max_7cf53, [])
set_option maxRecDepth 100000 in
theorem g_J9_max_7cf53 : mw_Good d_J9_max_7cf53 := ⟨by decide +kernel, Jvm.Free.JP.mathPlain rfl (by decide +kernel), by decide, mw_wd_in (i := 1027) (by decide +kernel), ⟨by decide +kernel, by decide +kernel⟩, by decide +kernel, [], by decide +kernel, mw_wd_in (i := 5011) (by decide +kernel)⟩
def p_J9_min_7cf53 : mw_Code := [[(0, mw_b (.iload_n 0) 1 0), (1, mw_b (.iload_n 1) 1 1), (2, mw_b (.if_icmp .gt 7) 3 9), (5, mw_b (.iload_n 0) 1 0), (6, mw_b (.goto 4) 3 10), (9, mw_b (.iload_n 1) 1 1), (10, mw_a (.ireturn) 1)]]
def d_J9_min_7cf53 : mw_CD := (yJ9_min_7cf53, cJ9_min_7cf53, 2, (some .int), p_J9_min_7cf53, [])
set_option maxRecDepth 100000 in
theorem g_J9_min_7cf53 : mw_Good d_J9_min_7cf53 := ⟨by decide +kernel, Jvm.Free.JP.mathPlain rfl (by decide +kernel), by decide, mw_wd_in (i := 1027) (by decide +kernel), ⟨by decide +kernel, by decide +kernel⟩, by decide +kernel, [], by decide +kernel, mw_wd_in (i := 4162) (by decide +kernel)⟩
