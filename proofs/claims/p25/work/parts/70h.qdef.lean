/-! ===== answers: what they say ===== -/
section ZUfo
variable {M X : Int → Bool} {k : Int}
end ZUfo
theorem zu_land2 (m j : Nat) : m &&& 2 ^ j = 0 ↔ m.testBit j = false := by
  constructor
  · intro h
    have q := congrArg (fun x => Nat.testBit x j) h
    have q : (m &&& 2 ^ j).testBit j = Nat.testBit 0 j := q
    rw [Nat.testBit_and, Nat.testBit_two_pow, decide_eq_true (rfl : j = j), Bool.and_true, Nat.zero_testBit] at q
    exact q
  · intro h
    refine Nat.eq_of_testBit_eq (fun i => ?_)
    rw [Nat.testBit_and, Nat.testBit_two_pow, Nat.zero_testBit]
    by_cases c : j = i
    · rw [← c, h, Bool.false_and]
    · rw [decide_eq_false c, Bool.and_false]
theorem zu_and_p2 {y j : Int} (hy : 0 ≤ y ∧ y ≤ 4095) (hj : 0 ≤ j ∧ j ≤ 11) : zq_and y (zx_p2 j) = 0 ↔ y / 2 ^ j.toNat % 2 = 0 := by
  obtain ⟨m, rfl⟩ := Int.eq_ofNat_of_zero_le hy.1
  have hp : zx_p2 j = ((2 ^ j.toNat : Nat) : Int) := by
    unfold zx_p2
    rw [Int.natCast_pow]
    rfl
  have hl := zx_p2_le (m := j) (n := 11) hj.2
  have e11 : zx_p2 11 = 2048 := rfl
  have e : (((m / 2 ^ j.toNat % 2 : Nat)) : Int) = (m : Int) / 2 ^ j.toNat % 2 := by
    rw [Int.natCast_emod, Int.natCast_ediv, Int.natCast_pow]
    rfl
  rw [hp, zt_andN (by omega) (by omega), ← e]
  have q := zu_land2 m j.toNat
  rw [Nat.testBit_eq_decide_div_mod_eq, decide_eq_false_iff_not] at q
  constructor
  · intro w
    have w : m &&& 2 ^ j.toNat = 0 := by omega
    have := q.mp w
    omega
  · intro w
    have := q.mpr (by omega)
    omega
