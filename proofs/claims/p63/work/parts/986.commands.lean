/-! the texts' commands -/
def z_x1F (k j : Nat) : Bool := decide (tx_cm (ts_23 ++ (dg (k + 1) ++ ts_24)) = (z_c1 k, -1))
def z_x2F (k j : Nat) : Bool := decide (tx_cm (ts_25 ++ (dg (j + 1) ++ ts_27)) = (z_c2 j, -1))
def z_x3F (k j : Nat) : Bool := decide (tx_cm (ts_25 ++ (dg (j + 1) ++ ts_26)) = (z_c3 j ++ [(3, 0, 1, 30, 8)], -1))
theorem z_x1 : (List.range 4).all (fun k => z_x1F k 0) = true := by decide +kernel
theorem z_x2 : (List.range 16).all (fun j => z_x2F 0 j) = true := by decide +kernel
theorem z_x3 : (List.range 16).all (fun j => z_x3F 0 j) = true := by decide +kernel
theorem y_10 : tx_cm ts_10 = ([(9, 5, 0, 0, 0), (9, 24, 0, 0, 0), (9, 1, 0, 0, 0)], -1) := by decide +kernel
theorem y_11 : tx_cm ts_11 = ([(9, 1, 0, 0, 0), (9, 49, 0, 0, 0)], -1) := by decide +kernel
theorem y_12 : tx_cm ts_12 = ([(4, 9, 0, 0, 0)], -1) := by decide +kernel
theorem y_13 : (tx_cm ts_13).2 = 1 := by decide +kernel
theorem y_14 : (tx_cm ts_14).2 = 1 := by decide +kernel
theorem y_15 : (tx_cm ts_15).2 = 9 := by decide +kernel
theorem y_16 : (tx_cm ts_16).2 = 9 := by decide +kernel
theorem y_17 : (tx_cm ts_17).2 = 7 := by decide +kernel
theorem y_18 : (tx_cm ts_18).2 = 0 := by decide +kernel
theorem y_19 : (tx_cm ts_19).2 = 7 := by decide +kernel
theorem y_20 : (tx_cm ts_20).2 = 7 := by decide +kernel
theorem y_21 : (tx_cm ts_21).2 = 9 := by decide +kernel
theorem y_22 : (tx_cm ts_22).2 = 0 := by decide +kernel
