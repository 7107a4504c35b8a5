/-! several offices side by side; undone changes; the numbers of the example -/
theorem Off.oth {b b' sb : Nat} {M M' : mw_Mem} {w' : of_S} {B' : Int} (h : Off b' 302 M w' B') (F : Fr b sb M M') (d : b' + 303 ≤ b ∨ (b + 303 ≤ b' ∧ sb = 302)) : Off b' 302 M' w' B' := by
  have kd := h.kd
  exact h.fr F.1 (fun x hx => F.2.1 x (by omega) (by omega) (by omega))
def un (n : Int) : Int := if n = 8 then 8 else n + 1
theorem un_rng {n : Int} (h : 0 ≤ n ∧ n ≤ 8) : 0 ≤ un n ∧ un n ≤ 8 ∧ ¬ un n = 0 := by
  unfold un
  split <;> omega
section
variable {n : Int} {G : Nat → Int → Int} {g g1 g2 g3 : Int → Int}
theorem u_1 (h : 0 ≤ n ∧ n ≤ 8) : sp_psh n G g (un n - 1).toNat = g := by
  unfold sp_psh un
  by_cases e : n = 8
  · rw [if_pos e, if_pos e, if_neg (by decide)]
  · rw [if_neg e, if_neg e, if_neg (by omega)]
theorem u_2 (h : 0 ≤ n ∧ n ≤ 8) : sp_psh (un n) (sp_psh n G g1) g2 (un (un n) - 1 - 1).toNat = g1 := by
  by_cases e8 : n = 8
  · subst e8
    rfl
  · by_cases e7 : n = 7
    · subst e7
      rfl
    · have u1 : un n = n + 1 := if_neg e8
      have u2 : un (n + 1) = n + 1 + 1 := if_neg (by omega)
      rw [u1, u2]
      unfold sp_psh
      rw [if_neg (by omega), if_pos (by omega), if_neg e8, if_neg (by omega)]
theorem u_3 (h : 0 ≤ n ∧ n ≤ 8) : sp_psh (un (un n)) (sp_psh (un n) (sp_psh n G g1) g2) g3 (un (un (un n)) - 1 - 1 - 1).toNat = g1 := by
  by_cases e8 : n = 8
  · subst e8
    rfl
  · by_cases e7 : n = 7
    · subst e7
      rfl
    · by_cases e6 : n = 6
      · subst e6
        rfl
      · have u1 : un n = n + 1 := if_neg e8
        have u2 : un (n + 1) = n + 1 + 1 := if_neg (by omega)
        have u3 : un (n + 1 + 1) = n + 1 + 1 + 1 := if_neg (by omega)
        rw [u1, u2, u3]
        unfold sp_psh
        rw [if_neg (by omega), if_pos (by omega), if_neg (by omega), if_pos (by omega), if_neg e8, if_neg (by omega)]
end
theorem i_one {x : Int32} {m : Int} (h0 : 0 ≤ x.toInt) (h1 : x.toInt ≤ m) (hm : m ≤ 1000) : 1 + x = Int32.ofInt (x.toInt + 1) := by
  rw [Int.add_comm, Int32.ofInt_add, Int32.ofInt_toInt]
  rfl
theorem i_nw (c : Int32) : ∃ k j : Nat, k < 4 ∧ j < 16 ∧ 1 + (c &&& 15) = Int32.ofInt ((j : Int) + 1) ∧ 1 + (c >>> ((4 : Int32) &&& 31) &&& 3) = Int32.ofInt ((k : Int) + 1) := by
  have a := i_mask (x := c) (m := 15) (n := 15) rfl (by decide)
  have b := i_mask (x := c >>> ((4 : Int32) &&& 31)) (m := 3) (n := 3) rfl (by decide)
  refine ⟨(c >>> ((4 : Int32) &&& 31) &&& 3).toInt.toNat, (c &&& 15).toInt.toNat, by omega, by omega, ?_, ?_⟩
  · rw [i_one a.1 a.2 (by decide), show (((c &&& 15).toInt.toNat : Nat) : Int) = (c &&& 15).toInt by omega]
  · rw [i_one b.1 b.2 (by decide), show (((c >>> ((4 : Int32) &&& 31) &&& 3).toInt.toNat : Nat) : Int) = (c >>> ((4 : Int32) &&& 31) &&& 3).toInt by omega]
