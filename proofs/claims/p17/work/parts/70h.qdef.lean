/-! ===== answers: what they say ===== -/
def zu_flF (m : Int → Int) : Nat → Int
  | 0 => 0
  | k + 1 => zq_or (zu_flF m k) (if m k ≠ 0 then zq_shl 1 k else 0)
/-- which FIELDS there are, by their masks -/
def zu_fl (m : Int → Int) (n : Int) : Int := zu_flF m n.toNat
theorem zu_fl_0 (m : Int → Int) : zu_fl m 0 = 0 := rfl
theorem zu_fl_s (m : Int → Int) {n : Int} (h : 0 ≤ n) : (m n ≠ 0 → zu_fl m (n + 1) = zq_or (zu_fl m n) (zq_shl 1 n)) ∧ (¬ m n ≠ 0 → zu_fl m (n + 1) = zq_or (zu_fl m n) 0) := by
  obtain ⟨k, rfl⟩ := Int.eq_ofNat_of_zero_le h
  have e : zu_fl m ((k : Int) + 1) = zq_or (zu_flF m k) (if m k ≠ 0 then zq_shl 1 k else 0) := rfl
  have e2 : zu_fl m (k : Int) = zu_flF m k := rfl
  exact ⟨fun c => by rw [e, e2, if_pos c], fun c => by rw [e, e2, if_neg c]⟩
section ZUfo
variable {M X : Int → Bool} {k : Int}
end ZUfo
theorem zu_land2 (m j : Nat) : m &&& 2 ^ j = 0 ↔ m.testBit j = false := by
  constructor
  · intro h
    have q := congrArg (fun x => Nat.testBit x j) h
    have q : (m &&& 2 ^ j).testBit j = Nat.testBit 0 j := q
    rw [Nat.testBit_and, Nat.testBit_two_pow, decide_eq_true (rfl : j = j), Bool.and_true, Nat.zero_testBit] at q
    exact q
  · intro h
    refine Nat.eq_of_testBit_eq (fun i => ?_)
    rw [Nat.testBit_and, Nat.testBit_two_pow, Nat.zero_testBit]
    by_cases c : j = i
    · rw [← c, h, Bool.false_and]
    · rw [decide_eq_false c, Bool.and_false]
theorem zu_and_p2 {y j : Int} (hy : 0 ≤ y ∧ y ≤ 4095) (hj : 0 ≤ j ∧ j ≤ 11) : zq_and y (zx_p2 j) = 0 ↔ y / 2 ^ j.toNat % 2 = 0 := by
  obtain ⟨m, rfl⟩ := Int.eq_ofNat_of_zero_le hy.1
  have hp : zx_p2 j = ((2 ^ j.toNat : Nat) : Int) := by
    unfold zx_p2
    rw [Int.natCast_pow]
    rfl
  have hl := zx_p2_le (m := j) (n := 11) hj.2
  have e11 : zx_p2 11 = 2048 := rfl
  have e : (((m / 2 ^ j.toNat % 2 : Nat)) : Int) = (m : Int) / 2 ^ j.toNat % 2 := by
    rw [Int.natCast_emod, Int.natCast_ediv, Int.natCast_pow]
    rfl
  rw [hp, zt_andN (by omega) (by omega), ← e]
  have q := zu_land2 m j.toNat
  rw [Nat.testBit_eq_decide_div_mod_eq, decide_eq_false_iff_not] at q
  constructor
  · intro w
    have w : m &&& 2 ^ j.toNat = 0 := by omega
    have := q.mp w
    omega
  · intro w
    have := q.mpr (by omega)
    omega
