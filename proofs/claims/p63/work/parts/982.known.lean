/-! the known example: its states -/
def z0l (k j : Nat) : List Int := [0, 0, 0, 0, 0, 0, 0, 0, 0, 0, 0, 0, 0, 0, 0, 0, 0, 0, 0, 0, 0, 0, 0, 0, 0, 0, 0, 0, 0, 0, 0, 0, 0, 0, 0, 0, 0, 0, 0, 0, 0, 0, 0, 0, 0, 0, 0, 0, 0, 0, 0, 0, 0, 0, 0, 0, 0, 0, 0, 0, 0, 0, 0, 0, 0, 0, 0, 0, 0, 0, 0, 0, 0, 0, 0, 0, 0, 0, 0, 0, 0, 0, 0, 0, 0, 0, 0, 0, 0, 0, 0, 0, 0, 0, 0, 0, 0, 0, 0, 0, 0, 0, 0, 0, 0, 0, 0, 0, 0, 0, 0, 0, 0, 0, 0, 0, 0, 0, 0, 0, 0, 0, 0, 0, 0, 0, 0, 0, 0, 0, 0, 0, 0, 0, 0, 0, 0, 0, 0, 0, 0, 0, 0, 0, 0, 0, 0, 0, 0, 0, 0, 0, 0, 0, 0, 0, 0, 0, 0, 0, 0]
def z1l (k j : Nat) : List Int := [0, 3, 2, 0, 0, 0, 0, 0, 0, 0, 4, 3, 9, 0, 0, 0, 0, 1, 0, 0, 0, 0, 0, 0, 0, 0, 1, 2, 0, 0, 0, 0, 0, 0, 0, 0, (k : Int) + 1, 3, 0, 0, 0, 0, 0, 0, 0, 0, 5, 9, 0, 0, 0, 0, 0, 0, 0, 0, 0, 0, 0, 0, 0, 0, 0, 0, 0, 0, 0, 0, 0, 0, 0, 0, 0, 0, 0, 0, 0, 0, 0, 0, 0, 0, 0, 0, 0, 0, 0, 0, 0, 0, 0, 0, 0, 0, 0, 0, 0, 0, 0, 0, 0, 0, 0, 0, 0, 0, 0, 0, 0, 0, 0, 0, 0, 0, 0, 0, 0, 0, 0, 0, 0, 0, 0, 0, 0, 0, 0, 0, 0, 0, 0, 0, 0, 0, 0, 0, 0, 0, 0, 0, 0, 0, 0, 0, 0, 0, 0, 0, 0, 0, 0, 0, 0, 0, 0, 0, 0, 0, 0, 0, 0]
def z2l (k j : Nat) : List Int := [0, 3, 2, 1, 3, 3, 0, 0, 0, 0, 4, 3, 9, 0, 0, 0, 0, 1, 0, 0, 0, 0, 0, 0, 0, 0, 1, 2, 0, 0, 0, 0, 0, 0, 0, 0, (k : Int) + 1, 3, 0, 0, 0, 0, 0, 0, 0, 0, 5, 9, 0, 0, 0, 0, 0, 0, 0, 0, 0, 0, 0, 0, 0, 0, 0, 0, 0, 5, 0, 0, 40, 0, 0, 0, 1, 2, 0, 0, 0, 0, 0, 0, 0, 0, 0, 0, 0, 0, 0, 0, 0, 0, 0, 2, 2, 1, 0, 0, 0, 0, 0, 0, 0, (j : Int) + 1, 24, 30, 0, 0, 0, 0, 0, 0, 0, 4, 2, 1, 0, 0, 0, 0, 0, 0, 0, 0, 0, 0, 0, 0, 0, 0, 0, 0, 0, 0, 0, 0, 0, 0, 0, 0, 0, 0, 0, 0, 0, 0, 0, 0, 0, 0, 0, 0, 0, 0, 0, 0, 0, 0, 0, 0, 0, 0, 0]
def z3l (k j : Nat) : List Int := [1, 3, 2, 1, 3, 3, 0, 0, 0, 0, 4, 3, 9, 0, 0, 0, 0, 1, 0, 0, 0, 0, 0, 0, 0, 0, 1, 2, 0, 0, 0, 0, 0, 0, 0, 0, (k : Int) + 1, 3, 0, 0, 0, 0, 0, 0, 0, 0, 5, 9, 0, 0, 0, 0, 0, 0, 0, 0, 0, 0, 0, 0, 0, 0, 0, 0, 0, 5, 0, 0, 40, 0, 0, 0, 1, 2, 0, 0, 0, 0, 0, 0, 0, 0, 0, 0, 0, 0, 0, 0, 0, 0, 0, 2, 2, 1, 0, 0, 0, 0, 0, 0, 0, (j : Int) + 1, 24, 30, 0, 0, 0, 0, 0, 0, 0, 4, 2, 1, 0, 0, 0, 0, 0, 0, 0, 0, 0, 0, 0, 0, 0, 0, 0, 0, 0, 0, 0, 0, 0, 0, 0, 0, 0, 0, 0, 0, 0, 0, 0, 0, 0, 0, 0, 0, 0, 0, 0, 0, 0, 0, 0, 0, 0, 0, 0]
def z4l (k j : Nat) : List Int := [1, 3, 2, 1, 3, 3, 0, 0, 0, 0, 4, 3, 9, 0, 0, 0, 0, 1, 0, 0, 0, 0, 0, 0, 0, 0, 1, 2, 0, 0, 0, 0, 0, 0, 0, 0, (k : Int) + 1, 3, 0, 0, 0, 0, 0, 0, 0, 0, 5, 9, 0, 0, 0, 0, 0, 0, 0, 0, 0, 0, 0, 0, 0, 0, 0, 0, 0, 5, 0, 0, 40, 0, 0, 0, 1, 2, 0, 0, 0, 0, 0, 0, 0, 0, 0, 0, 0, 0, 0, 0, 0, 0, 0, 2, 2, 1, 0, 0, 0, 0, 0, 0, 0, (j : Int) + 1, 24, 30, 0, 0, 0, 0, 0, 0, 0, 4, 2, 1, 0, 0, 0, 0, 0, 0, 0, 10, 10, 0, 0, 0, 0, 0, 0, 0, 0, 0, 0, 0, 0, 0, 0, 0, 0, 0, 0, 0, 0, 0, 0, 0, 0, 0, 0, 0, 0, 0, 0, 0, 0, 0, 0, 0, 0, 0, 0]
def z5l (k j : Nat) : List Int := [1, 3, 2, 1, 3, 3, 0, 0, 0, 0, 4, 3, 9, 0, 0, 0, 0, 1, 0, 0, 0, 0, 0, 0, 0, 0, 1, 2, 0, 0, 0, 0, 0, 0, 0, 0, (k : Int) + 1, 3, 0, 0, 0, 0, 0, 0, 0, 0, 5, 9, 0, 0, 0, 0, 0, 0, 0, 0, 1, 0, 0, 0, 0, 0, (k : Int) + 2, 0, 0, 5, 0, 0, 40, 0, 0, 0, 1, 2, 0, 0, 0, 0, 0, 0, 0, 0, 0, 0, 0, 0, 0, 0, 0, 0, 0, 2, 2, 1, 0, 0, 0, 0, 0, 0, 0, (j : Int) + 1, 24, 30, 0, 0, 0, 0, 0, 0, 0, 4, 2, 1, 0, 0, 0, 0, 0, 0, 0, 10, 10, 0, 0, 0, 0, 0, 0, 0, 0, 0, 0, 0, 0, 0, 0, 0, 0, 0, 0, 0, 0, 0, 0, 0, 0, 0, 0, 0, 0, 0, 0, 0, 0, 0, 0, 0, 0, 0, 0]
def z6l (k j : Nat) : List Int := [(k : Int) + 2, 3, 2, 1, 3, 3, 0, 0, 1, 0, 4, 3, 9, 0, 0, 0, 0, 1, 0, 0, 0, 0, 0, 0, 0, 0, 1, 2, 0, 0, 0, 0, 0, 0, 0, 0, (k : Int) + 1, 3, 0, 0, 0, 0, 0, 0, 0, 0, 5, 9, 0, 0, 0, 0, 0, 0, 0, 0, 1, 0, 0, 0, 0, 0, 0, 0, 0, 5, 0, 0, 40, 0, 0, 0, 1, 2, 0, 0, 0, 0, 0, 0, 0, 0, 0, 0, 0, 0, 0, 0, 0, 0, 0, 2, 2, 1, 0, 0, 0, 0, 0, 0, 0, (j : Int) + 1, 24, 30, 0, 0, 0, 0, 0, 0, 0, 4, 2, 1, 0, 0, 0, 0, 0, 0, 0, 10, 10, 0, 0, 0, 0, 0, 0, 0, 0, 0, 0, 0, 0, 0, 0, 0, 0, 0, 0, 1, 0, 0, 0, 0, 0, 0, 0, 0, 0, (k : Int) + 2, 0, 0, 0, 0, 0, 0, 0, 0, 0]
def z7l (k j : Nat) : List Int := [(k : Int) + 2, 3, 2, 1, 3, 3, 0, 0, 1, 0, 4, 3, 9, 0, 0, 0, 0, 1, 0, 0, 0, 0, 0, 0, 0, 0, 1, 2, 0, 0, 0, 0, 0, 0, 0, 0, (k : Int) + 1, 3, 0, 0, 0, 0, 0, 0, 0, 0, 5, 9, 0, 0, 0, 0, 0, 0, 0, 0, 0, 0, 0, 1, 0, 0, 2 * (k : Int) + 3, 0, 0, 5, 0, 0, 40, 0, 0, 0, 1, 2, 0, 0, 0, 0, 0, 0, 0, 0, 0, 0, 0, 0, 0, 0, 0, 0, 0, 2, 2, 1, 0, 0, 0, 0, 0, 0, 0, (j : Int) + 1, 24, 30, 0, 0, 0, 0, 0, 0, 0, 4, 2, 1, 0, 0, 0, 0, 0, 0, 0, 10, 10, 0, 0, 0, 0, 0, 0, 0, 0, 0, 0, 0, 0, 0, 0, 0, 0, 0, 0, 1, 0, 0, 0, 0, 0, 0, 0, 0, 0, (k : Int) + 2, 0, 0, 0, 0, 0, 0, 0, 0, 0]
def z8l (k j : Nat) : List Int := [(k : Int) + 2, 3, 2, 1, 3, 3, 0, 0, 1, 0, 4, 3, 9, 0, 0, 0, 0, 1, 0, 0, 0, 0, 0, 0, 0, 0, 1, 2, 0, 0, 0, 0, 0, 0, 0, 0, (k : Int) + 1, 3, 0, 0, 0, 0, 0, 0, 0, 0, 5, 9, 0, 0, 0, 0, 0, 0, 0, 0, 1, 0, 0, 0, 0, 0, 0, 0, 0, 5, 0, 0, 40, 0, 0, 0, 1, 2, 0, 0, 0, 0, 0, 0, 0, 0, 0, 0, 0, 0, 0, 0, 0, 0, 0, 2, 2, 1, 0, 0, 0, 0, 0, 0, 0, (j : Int) + 1, 24, 30, 0, 0, 0, 0, 0, 0, 0, 4, 2, 1, 0, 0, 0, 0, 0, 0, 0, 10, 1, 0, 0, 0, 0, 0, 0, 0, 0, 0, 0, 0, 0, 0, 0, 0, 0, 0, 0, 1, 0, 0, 0, 0, 0, 0, 0, 0, 0, (k : Int) + 2, 0, 0, 0, 0, 0, 0, 0, 0, 0]
def z9l (k j : Nat) : List Int := [(k : Int) + 2, 3, 2, 1, 3, 3, 0, 0, 1, 0, 4, 3, 9, 0, 0, 0, 0, 1, 0, 0, 0, 0, 0, 0, 0, 0, 1, 2, 0, 0, 0, 0, 0, 0, 0, 0, (k : Int) + 1, 3, 0, 0, 0, 0, 0, 0, 0, 0, 5, 9, 0, 0, 0, 0, 0, 0, 0, 0, 2, 0, 0, 1, 0, 0, (k : Int) + 5, 0, 0, 5, 0, 0, 40, 0, 0, 0, 1, 2, 0, 0, 0, 0, 0, 0, 0, 0, 0, 0, 0, 0, 0, 0, 0, 0, 0, 2, 2, 1, 0, 0, 0, 0, 0, 0, 0, (j : Int) + 1, 24, 30, 0, 0, 0, 0, 0, 0, 0, 4, 2, 1, 0, 0, 0, 0, 0, 0, 0, 10, 1, 0, 0, 0, 0, 0, 0, 0, 0, 0, 0, 0, 0, 0, 0, 0, 0, 0, 0, 1, 0, 0, 0, 0, 0, 0, 0, 0, 0, (k : Int) + 2, 0, 0, 0, 0, 0, 0, 0, 0, 0]
def z10l (k j : Nat) : List Int := [(k : Int) + 5, 3, 2, 1, 3, 3, 0, 0, 2, 0, 4, 3, 9, 0, 0, 0, 0, 1, 0, 0, 0, 0, 0, 0, 0, 0, 1, 2, 0, 0, 0, 0, 0, 0, 0, 0, (k : Int) + 1, 3, 0, 0, 0, 0, 0, 0, 0, 0, 5, 9, 0, 0, 0, 0, 0, 0, 0, 0, 2, 0, 0, 1, 0, 0, 0, 0, 0, 5, 0, 0, 40, 0, 0, 0, 1, 2, 0, 0, 0, 0, 0, 0, 0, 0, 0, 0, 0, 0, 0, 0, 0, 0, 0, 2, 2, 1, 0, 0, 0, 0, 0, 0, 0, (j : Int) + 1, 24, 30, 0, 0, 0, 0, 0, 0, 0, 4, 2, 1, 0, 0, 0, 0, 0, 0, 0, 10, 1, 0, 0, 0, 0, 0, 0, 0, 0, 0, 0, 0, 0, 0, 0, 0, 0, 0, 0, 2, 1, 0, 0, 0, 0, 0, 0, 0, 0, (k : Int) + 5, (k : Int) + 2, 0, 0, 0, 0, 0, 0, 0, 0]
def z11l (k j : Nat) : List Int := [(k : Int) + 5, 3, 2, 1, 2, 3, 5 * (k : Int) + 20, 0, 2, 0, 4, 3, 9, 0, 0, 0, 0, 1, 0, 0, 0, 0, 0, 0, 0, 0, 1, 2, 0, 0, 0, 0, 0, 0, 0, 0, (k : Int) + 1, 3, 0, 0, 0, 0, 0, 0, 0, 0, 5, 9, 0, 0, 0, 0, 0, 0, 0, 0, 2, 0, 0, 1, 0, 0, 0, 0, 0, 5, 0, 0, 40, 0, 0, 1, 2, 0, 0, 0, 0, 0, 0, 0, 0, 0, 0, 0, 0, 0, 0, 0, 0, 0, 0, 2, 1, 0, 0, 0, 0, 0, 0, 0, 0, 24, 30, 0, 0, 0, 0, 0, 0, 0, 0, 2, 1, 0, 0, 0, 0, 0, 0, 0, 0, 1, 0, 0, 0, 0, 0, 0, 0, 0, 0, 0, 0, 0, 0, 0, 0, 0, 0, 0, 0, 2, 1, 0, 0, 0, 0, 0, 0, 0, 0, (k : Int) + 5, (k : Int) + 2, 0, 0, 0, 0, 0, 0, 0, 0]
def z12l (k j : Nat) : List Int := [(k : Int) + 5, 3, 2, 2, 2, 3, 5 * (k : Int) + 20, 0, 2, 0, 4, 3, 9, 0, 0, 0, 0, 1, 0, 0, 0, 0, 0, 0, 0, 0, 1, 2, 0, 0, 0, 0, 0, 0, 0, 0, (k : Int) + 1, 3, 0, 0, 0, 0, 0, 0, 0, 0, 5, 9, 0, 0, 0, 0, 0, 0, 0, 0, 2, 1, 0, 1, 0, 0, 0, 0, 0, 5, 12, 0, 40, 50, 0, 1, 2, 0, 0, 0, 0, 0, 0, 0, 0, 0, 0, 0, 0, 0, 0, 0, 0, 0, 0, 2, 1, 0, 0, 0, 0, 0, 0, 0, 0, 24, 30, 0, 0, 0, 0, 0, 0, 0, 0, 2, 1, 0, 0, 0, 0, 0, 0, 0, 0, 1, 0, 0, 0, 0, 0, 0, 0, 0, 0, 0, 0, 0, 0, 0, 0, 0, 0, 0, 0, 2, 1, 0, 0, 0, 0, 0, 0, 0, 0, (k : Int) + 5, (k : Int) + 2, 0, 0, 0, 0, 0, 0, 0, 0]
def z13l (k j : Nat) : List Int := [(k : Int) + 5, 3, 2, 2, 2, 3, 5 * (k : Int) + 20, 0, 2, 0, 4, 3, 9, 0, 0, 0, 0, 1, 0, 0, 0, 0, 0, 0, 0, 0, 1, 2, 0, 0, 0, 0, 0, 0, 0, 0, (k : Int) + 1, 3, 0, 0, 0, 0, 0, 0, 0, 0, 5, 9, 0, 0, 0, 0, 0, 0, 0, 0, 2, 1, 0, 1, 0, 0, 0, 0, 0, 5, 12, 0, 40, 50, 0, 1, 2, 0, 0, 0, 0, 0, 0, 0, 0, 0, 0, 0, 0, 0, 0, 0, 0, 0, 0, 2, 1, 0, 0, 0, 0, 0, 0, 0, 0, 24, 30, 0, 0, 0, 0, 0, 0, 0, 0, 2, 1, 0, 0, 0, 0, 0, 0, 0, 0, 1, 0, 0, 0, 0, 0, 0, 0, 0, 0, 0, 0, 0, 0, 0, 0, 0, 0, 0, 0, 2, 1, 0, 0, 0, 0, 0, 0, 0, 0, (k : Int) + 5, (k : Int) + 2, 0, 0, 0, 0, 0, 0, 0, 0]
def z14l (k j : Nat) : List Int := [24, 3, 2, 2, 2, 3, 5 * (k : Int) + 20, 0, 2, 0, 4, 3, 9, 0, 0, 0, 0, 1, 0, 0, 0, 0, 0, 0, 0, 0, 1, 2, 0, 0, 0, 0, 0, 0, 0, 0, (k : Int) + 1, 3, 0, 0, 0, 0, 0, 0, 0, 0, 5, 9, 0, 0, 0, 0, 0, 0, 0, 0, 2, 1, 0, 1, 0, 0, 0, 0, 0, 5, 12, 0, 40, 50, 0, 1, 2, 0, 0, 0, 0, 0, 0, 0, 0, 0, 0, 0, 0, 0, 0, 0, 0, 0, 0, 2, 1, 0, 0, 0, 0, 0, 0, 0, 0, 24, 30, 0, 0, 0, 0, 0, 0, 0, 0, 3, 2, 0, 0, 0, 0, 0, 0, 0, 0, 1, 0, 0, 0, 0, 0, 0, 0, 0, 0, 0, 0, 0, 0, 0, 0, 0, 0, 0, 0, 2, 1, 0, 0, 0, 0, 0, 0, 0, 0, (k : Int) + 5, (k : Int) + 2, 0, 0, 0, 0, 0, 0, 0, 0]
def z_all (F : Nat → Nat → Bool) : Bool := (List.range 4).all (fun k => (List.range 16).all (fun j => F k j))
theorem z_ok {F : Nat → Nat → Bool} (h : z_all F = true) {k j : Nat} (hk : k < 4) (hj : j < 16) : F k j = true :=
  List.all_eq_true.mp (List.all_eq_true.mp h k (List.mem_range.mpr hk)) j (List.mem_range.mpr hj)
def z_eq (g : Int → Int) (l : List Int) : Bool := decide (tb g = tb (zt l))
theorem z_eq_ok {g : Int → Int} {l : List Int} (h : z_eq g l = true) : sp_ew g (zt l) := by
  have e : tb g = tb (zt l) := of_decide_eq_true h
  have k := zt_tb g
  rw [e, zt_Zr.tb] at k
  exact k
def z_c1 (k : Nat) : List (Nat × Int × Int × Int × Int) := [(0, 4, 0, 0, 0), (0, 3, 0, 0, 0), (0, 9, 0, 0, 0), (1, 0, 1, (k : Int) + 1, 5), (1, 1, 2, 3, 9)]
def z_c2 (j : Nat) : List (Nat × Int × Int × Int × Int) := [(2, 0, 5, 40, 0), (3, 0, 2, (j : Int) + 1, 4), (3, 0, 2, 24, 2), (3, 0, 1, 30, 1)]
def z_c3 (j : Nat) : List (Nat × Int × Int × Int × Int) := [(2, 0, 5, 40, 0), (3, 0, 2, (j : Int) + 1, 4), (3, 0, 2, 24, 2)]
def z_t1F (k j : Nat) : Bool := c_co (zt (z0l k j)) (z_c1 k) && z_eq (c_cg (zt (z0l k j)) (z_c1 k)) (z1l k j)
theorem z_t1 : z_all z_t1F = true := by decide +kernel
def z_t2F (k j : Nat) : Bool := c_co (zt (z1l k j)) (z_c2 j)
theorem z_t2 : z_all z_t2F = true := by decide +kernel
def z_b4F (k j : Nat) : Bool := (c_best (zt (z3l k j)) 0).2 0 && ((c_best (zt (z3l k j)) 0).2 1 && !((c_best (zt (z3l k j)) 0).2 2))
theorem z_b4 : z_all z_b4F = true := by decide +kernel
def z_t3F (k j : Nat) : Bool := c_co (zt (z1l k j)) (z_c3 j) && c_of 3 (c_cg (zt (z1l k j)) (z_c3 j)) 0 1 30 8 (-2) 0
theorem z_t3 : z_all z_t3F = true := by decide +kernel
def z_s4F (k j : Nat) : Bool := c_kd 7 && (c_oo 7 (zt (z3l k j)) (0) (0) (0) (0) && decide (c_ov 7 (zt (z3l k j)) (0) (0) = 2))
theorem z_s4 : z_all z_s4F = true := by decide +kernel
def z_s5F (k j : Nat) : Bool := c_kd 4 && (c_oo 4 (zt (z4l k j)) (0) (1) (0) (0) && decide (c_ov 4 (zt (z4l k j)) (0) (1) = (k : Int) + 2))
theorem z_s5 : z_all z_s5F = true := by decide +kernel
def z_s7F (k j : Nat) : Bool := c_kd 4 && (c_oo 4 (zt (z6l k j)) (0) (0) (0) (0) && decide (c_ov 4 (zt (z6l k j)) (0) (0) = 2 * (k : Int) + 3))
theorem z_s7 : z_all z_s7F = true := by decide +kernel
def z_s8F (k j : Nat) : Bool := c_kd 6 && (c_oo 6 (zt (z6l k j)) (1) (0) (0) (0) && decide (c_ov 6 (zt (z6l k j)) (1) (0) = 0))
theorem z_s8 : z_all z_s8F = true := by decide +kernel
def z_s9F (k j : Nat) : Bool := c_kd 4 && (c_oo 4 (zt (z8l k j)) (0) (2) (0) (0) && decide (c_ov 4 (zt (z8l k j)) (0) (2) = (k : Int) + 5))
theorem z_s9 : z_all z_s9F = true := by decide +kernel
def z_s11F (k j : Nat) : Bool := c_kd 6 && (c_oo 6 (zt (z10l k j)) (0) (0) (0) (0) && decide (c_ov 6 (zt (z10l k j)) (0) (0) = 5 * ((k : Int) + 4)))
theorem z_s11 : z_all z_s11F = true := by decide +kernel
def z_s12F (k j : Nat) : Bool := c_kd 2 && (c_oo 2 (zt (z11l k j)) (1) (12) (50) (0) && (z_eq (c_og 2 (zt (z11l k j)) (1) (12) (50) (0)) (z12l k j) && decide (c_ov 2 (zt (z11l k j)) (1) (12) = 1)))
theorem z_s12 : z_all z_s12F = true := by decide +kernel
def z_s13F (k j : Nat) : Bool := c_kd 8 && (c_oo 8 (zt (z12l k j)) (1) (0) (0) (0) && (z_eq (c_og 8 (zt (z12l k j)) (1) (0) (0) (0)) (z13l k j) && decide (c_ov 8 (zt (z12l k j)) (1) (0) = 0)))
theorem z_s13 : z_all z_s13F = true := by decide +kernel
def z_f1F (k j : Nat) : Bool := c_of 4 (zt (z0l k j)) (0) (0) 0 0 (-1) (0)
theorem z_f1 : z_all z_f1F = true := by decide +kernel
def z_f2F (k j : Nat) : Bool := c_of 6 (zt (z0l k j)) (0) (0) 0 0 (-5) (0)
theorem z_f2 : z_all z_f2F = true := by decide +kernel
def z_f3F (k j : Nat) : Bool := c_of 7 (zt (z2l k j)) (0) (0) 0 0 (-4) (0)
theorem z_f3 : z_all z_f3F = true := by decide +kernel
def z_f4F (k j : Nat) : Bool := c_of 5 (zt (z2l k j)) (0) (0) 0 0 (-4) (5)
theorem z_f4 : z_all z_f4F = true := by decide +kernel
def z_f5F (k j : Nat) : Bool := c_of 4 (zt (z2l k j)) (0) (2) 0 0 (-4) (1)
theorem z_f5 : z_all z_f5F = true := by decide +kernel
def z_f6F (k j : Nat) : Bool := c_of 4 (zt (z2l k j)) (0) (1) 0 0 (-4) (2)
theorem z_f6 : z_all z_f6F = true := by decide +kernel
def z_f7F (k j : Nat) : Bool := c_of 5 (zt (z4l k j)) (0) (2) 0 0 (-4) (6)
theorem z_f7 : z_all z_f7F = true := by decide +kernel
def z_f8F (k j : Nat) : Bool := c_of 5 (zt (z4l k j)) (0) (1) 0 0 (-3) (0)
theorem z_f8 : z_all z_f8F = true := by decide +kernel
def z_f9F (k j : Nat) : Bool := c_of 6 (zt (z5l k j)) (0) (0) 0 0 (-4) (0)
theorem z_f9 : z_all z_f9F = true := by decide +kernel
def z_f10F (k j : Nat) : Bool := c_of 10 (zt (z5l k j)) (0) (0) 0 0 (-3) (0)
theorem z_f10 : z_all z_f10F = true := by decide +kernel
def z_f11F (k j : Nat) : Bool := c_of 8 (zt (z13l k j)) (0) (0) 0 0 (-3) (0)
theorem z_f11 : z_all z_f11F = true := by decide +kernel
def z_q1F (k j : Nat) : Bool := decide (c_D (zt (z1l k j)) 0 2 = (k : Int) + 4 ∧ c_D (zt (z1l k j)) 2 0 = (k : Int) + 4 ∧ (zt (z1l k j)) 1 = 3 ∧ (zt (z1l k j)) 4 = 0 ∧ (zt (z1l k j)) 2 = 2)
theorem z_q1 : z_all z_q1F = true := by decide +kernel
def z_q2F (k j : Nat) : Bool := decide (c_plc (zt (z2l k j)) 0 = 0 ∧ c_plc (zt (z2l k j)) 1 = 1 ∧ c_plc (zt (z2l k j)) 2 = 2 ∧ c_fare (zt (z2l k j)) 0 = 5 * ((k : Int) + 4) ∧ c_fare (zt (z2l k j)) 1 = 3 * ((k : Int) + 4) ∧ c_fare (zt (z2l k j)) 2 = 2 * ((k : Int) + 1) ∧ (zt (z2l k j)) 4 = 3 ∧ (zt (z2l k j)) 3 = 1 ∧ (zt (z2l k j)) 71 = 0 ∧ (zt (z2l k j)) 73 = 2 ∧ (zt (z2l k j)) 62 = 0 ∧ (zt (z2l k j)) 1 = 3 ∧ c_sS (zt (z2l k j)) 0 = 1)
theorem z_q2 : z_all z_q2F = true := by decide +kernel
def z_q2bF (k j : Nat) : Bool := decide ((c_best (zt (z2l k j)) 0).1 = 8 * ((k : Int) + 4))
theorem z_q2b : z_all z_q2bF = true := by decide +kernel
def z_q3F (k j : Nat) : Bool := decide ((zt (z3l k j)) 3 = 1 ∧ c_sS (zt (z3l k j)) 0 = 0)
theorem z_q3 : z_all z_q3F = true := by decide +kernel
def z_q4F (k j : Nat) : Bool := decide ((zt (z4l k j)) 3 = 1 ∧ sp_car (zt (z4l k j)) 0 = (j : Int) + 25)
theorem z_q4 : z_all z_q4F = true := by decide +kernel
def z_q5F (k j : Nat) : Bool := decide ((zt (z5l k j)) 3 = 1 ∧ (zt (z5l k j)) 62 = (k : Int) + 2)
theorem z_q5 : z_all z_q5F = true := by decide +kernel
def z_q6F (k j : Nat) : Bool := decide ((zt (z6l k j)) 3 = 1 ∧ (zt (z6l k j)) 62 = 0 ∧ (zt (z6l k j)) 56 = 1 ∧ (zt (z6l k j)) 8 = 1 ∧ (zt (z6l k j)) 141 = 1 ∧ (zt (z6l k j)) 151 = (k : Int) + 2 ∧ (zt (z6l k j)) 131 = 0 ∧ c_sS (zt (z6l k j)) 0 = 0)
theorem z_q6 : z_all z_q6F = true := by decide +kernel
def z_q8F (k j : Nat) : Bool := decide (c_plc (zt (z8l k j)) 1 = 1 ∧ (zt (z8l k j)) 122 = 1 ∧ c_fare (zt (z8l k j)) 1 = 3 * ((k : Int) + 4))
theorem z_q8 : z_all z_q8F = true := by decide +kernel
def z_q11F (k j : Nat) : Bool := decide ((zt (z11l k j)) 6 = 5 * ((k : Int) + 4) ∧ (zt (z11l k j)) 7 = 0 ∧ (zt (z11l k j)) 4 = 2 ∧ sp_ph (zt (z11l k j)) = 3)
theorem z_q11 : z_all z_q11F = true := by decide +kernel
def z_q12F (k j : Nat) : Bool := decide ((zt (z12l k j)) 3 = 2 ∧ c_sS (zt (z12l k j)) 1 = 1)
theorem z_q12 : z_all z_q12F = true := by decide +kernel
def z_q14F (k j : Nat) : Bool := decide (c_plc (zt (z14l k j)) 1 = 0 ∧ c_plc (zt (z14l k j)) 2 = 1 ∧ (zt (z14l k j)) 111 = 3 ∧ (zt (z14l k j)) 112 = 2 ∧ (zt (z14l k j)) 9 = 0 ∧ (zt (z14l k j)) 8 = 2)
theorem z_q14 : z_all z_q14F = true := by decide +kernel
