/-! bits of whole numbers -/
section
theorem nw_bv {x : Int} (h : 0 ≤ x ∧ x < 2147483648) : (Int32.ofInt x).toBitVec = BitVec.ofNat 32 x.toNat := by
  apply BitVec.eq_of_toNat_eq
  show (BitVec.ofInt 32 x).toNat = _
  rw [BitVec.toNat_ofInt, BitVec.toNat_ofNat]
  omega
theorem nw_bvI {v : Int32} {n : Nat} (h : v.toBitVec = BitVec.ofNat 32 n) (hn : n < 2147483648) : v.toInt = n := by
  show v.toBitVec.toInt = n
  rw [h, BitVec.toInt_eq_toNat_bmod, BitVec.toNat_ofNat]
  have e : n % 2 ^ 32 = n := Nat.mod_eq_of_lt (by omega)
  rw [e]
  exact Int.bmod_eq_of_le (by omega) (by omega)
theorem nw_and {x y : Int} (hx : 0 ≤ x ∧ x < 2147483648) (hy : 0 ≤ y ∧ y < 2147483648) : nw_xiand x y = ((x.toNat &&& y.toNat : Nat) : Int) := by
  have hb : x.toNat &&& y.toNat < 2 ^ 31 := Nat.and_lt_two_pow _ (by omega)
  refine nw_bvI ?_ (by omega)
  rw [Int32.toBitVec_and, nw_bv hx, nw_bv hy]
  apply BitVec.eq_of_toNat_eq
  rw [BitVec.toNat_and, BitVec.toNat_ofNat, BitVec.toNat_ofNat, BitVec.toNat_ofNat, Nat.mod_eq_of_lt (a := x.toNat) (by omega), Nat.mod_eq_of_lt (a := y.toNat) (by omega), Nat.mod_eq_of_lt (by omega)]
theorem nw_or {x y : Int} (hx : 0 ≤ x ∧ x < 2147483648) (hy : 0 ≤ y ∧ y < 2147483648) : nw_xior x y = ((x.toNat ||| y.toNat : Nat) : Int) := by
  have hb : x.toNat ||| y.toNat < 2 ^ 31 := Nat.or_lt_two_pow (by omega) (by omega)
  refine nw_bvI ?_ (by omega)
  rw [Int32.toBitVec_or, nw_bv hx, nw_bv hy]
  apply BitVec.eq_of_toNat_eq
  rw [BitVec.toNat_or, BitVec.toNat_ofNat, BitVec.toNat_ofNat, BitVec.toNat_ofNat, Nat.mod_eq_of_lt (a := x.toNat) (by omega), Nat.mod_eq_of_lt (a := y.toNat) (by omega), Nat.mod_eq_of_lt (by omega)]
theorem nw_xor {x y : Int} (hx : 0 ≤ x ∧ x < 2147483648) (hy : 0 ≤ y ∧ y < 2147483648) : nw_xixor x y = ((x.toNat ^^^ y.toNat : Nat) : Int) := by
  have hb : x.toNat ^^^ y.toNat < 2 ^ 31 := Nat.xor_lt_two_pow (by omega) (by omega)
  refine nw_bvI ?_ (by omega)
  rw [Int32.toBitVec_xor, nw_bv hx, nw_bv hy]
  apply BitVec.eq_of_toNat_eq
  rw [BitVec.toNat_xor, BitVec.toNat_ofNat, BitVec.toNat_ofNat, BitVec.toNat_ofNat, Nat.mod_eq_of_lt (a := x.toNat) (by omega), Nat.mod_eq_of_lt (a := y.toNat) (by omega), Nat.mod_eq_of_lt (by omega)]
theorem nw_shn : ∀ n, n < 32 → ((Int32.ofInt (n : Nat) &&& 31).toBitVec.smod 32).toNat = n := by decide +kernel
theorem nw_shl1 : ∀ n : Nat, n < 16 → nw_xishl 1 n = 2 ^ n := by decide +kernel
theorem nw_shr {x y : Int} (hy : 0 ≤ y ∧ y < 32) (hx : nw_in x) : nw_xishr x y = x / 2 ^ y.toNat := by
  unfold nw_xishr
  obtain ⟨n, hn⟩ : ∃ n : Nat, y = n := ⟨y.toNat, by omega⟩
  subst hn
  have e : (Int32.ofInt x >>> (Int32.ofInt (n : Nat) &&& 31)).toInt = (Int32.ofInt x).toInt >>> ((Int32.ofInt (n : Nat) &&& 31).toBitVec.smod 32).toNat := BitVec.toInt_sshiftRight ..
  rw [e, nw_shn n (by omega), Int.shiftRight_eq_div_pow, nw_ti hx, Int.toNat_natCast]
  simp
theorem nw_and1 {x : Int} (hx : 0 ≤ x ∧ x < 2147483648) : nw_xiand x 1 = x % 2 := by
  rw [nw_and hx ⟨by decide, by decide⟩, show ((1 : Int).toNat) = 2 ^ 1 - 1 from rfl, Nat.and_two_pow_sub_one_eq_mod]
  omega
/-- bit i of x -/
def nw_bit (x i : Int) : Prop := x / 2 ^ i.toNat % 2 = 1
theorem nw_tb {x y : Int} (hx : 0 ≤ x ∧ x < 2147483648) (hy : 0 ≤ y ∧ y < 32) : nw_xiand (nw_xishr x y) 1 = x / 2 ^ y.toNat % 2 := by
  have hp : (0 : Int) < 2 ^ y.toNat := Int.pow_pos (by decide)
  have h1 : 0 ≤ x / 2 ^ y.toNat := Int.ediv_nonneg hx.1 (by omega)
  have h2 : x / 2 ^ y.toNat ≤ x := Int.ediv_le_self _ hx.1
  rw [nw_shr hy ⟨by omega, hx.2⟩, nw_and1 ⟨h1, by omega⟩]
theorem nw_tbT {x : Int} (hx : 0 ≤ x) (n : Nat) : x / 2 ^ n % 2 = 1 ↔ x.toNat.testBit n = true := by
  obtain ⟨m, rfl⟩ : ∃ m : Nat, x = m := ⟨x.toNat, by omega⟩
  rw [Nat.testBit_eq_decide_div_mod_eq, decide_eq_true_eq, Int.toNat_natCast]
  have e : ((m : Int) / 2 ^ n % 2) = ((m / 2 ^ n % 2 : Nat) : Int) := by simp
  rw [e]
  omega
end

