/-! ===== answers: what they say ===== -/
def zu_foF (M X : Int → Bool) : Nat → Int
  | 0 => 0
  | k + 1 => if M k = true then 2 * zu_foF M X k + (if X k = true then 1 else 0) else zu_foF M X k
/-- a FIELD's number: the bits X where M is so -/
def zu_fo (M X : Int → Bool) (n : Int) : Int := zu_foF M X n.toNat
section ZUfo
variable {M X : Int → Bool} {k : Int}
theorem zu_fo_bF (M X : Int → Bool) : ∀ k : Nat, 0 ≤ zu_foF M X k ∧ zu_foF M X k < 2 ^ k := by
  intro k
  induction k with
  | zero => exact ⟨Int.le_refl 0, by show (0 : Int) < 1; decide⟩
  | succ k ih =>
    have e : (2 : Int) ^ (k + 1) = 2 * 2 ^ k := by rw [Int.pow_succ]; omega
    show 0 ≤ (if M k = true then 2 * zu_foF M X k + (if X k = true then 1 else 0) else zu_foF M X k) ∧ (if M k = true then 2 * zu_foF M X k + (if X k = true then 1 else 0) else zu_foF M X k) < 2 ^ (k + 1)
    split
    · split <;> omega
    · omega
theorem zu_fo_b (M X : Int → Bool) (k : Int) : 0 ≤ zu_fo M X k ∧ zu_fo M X k < zx_p2 k := zu_fo_bF M X k.toNat
theorem zu_fo_noF : ∀ k : Nat, (∀ i : Int, 0 ≤ i → i < k → ¬ M i = true) → zu_foF M X k = 0 := by
  intro k
  induction k with
  | zero => intro _; rfl
  | succ k ih =>
    intro h
    show (if M k = true then 2 * zu_foF M X k + (if X k = true then 1 else 0) else zu_foF M X k) = 0
    rw [if_neg (h k (by omega) (by omega))]
    exact ih (fun i i0 i1 => h i i0 (by omega))
theorem zu_fo_skF {M' X' : Int → Bool} (a : Nat) (h0 : ∀ i : Int, 0 ≤ i → i < a → ¬ M i = true) : ∀ k : Nat, (∀ i : Int, 0 ≤ i → i < k → M (a + i) = M' i ∧ X (a + i) = X' i) → zu_foF M X (a + k) = zu_foF M' X' k := by
  intro k
  induction k with
  | zero => intro _; exact zu_fo_noF a h0
  | succ k ih =>
    intro h
    obtain ⟨e1, e2⟩ := h k (by omega) (by omega)
    show (if M ((a + k : Nat) : Int) = true then 2 * zu_foF M X (a + k) + (if X ((a + k : Nat) : Int) = true then 1 else 0) else zu_foF M X (a + k)) = (if M' k = true then 2 * zu_foF M' X' k + (if X' k = true then 1 else 0) else zu_foF M' X' k)
    rw [ih (fun i i0 i1 => h i i0 (by omega)), show ((a + k : Nat) : Int) = (a : Int) + (k : Int) by omega, e1, e2]
theorem zu_fo_sk {M' X' : Int → Bool} {a : Int} (a0 : 0 ≤ a) (k0 : 0 ≤ k) (h0 : ∀ i : Int, 0 ≤ i → i < a → ¬ M i = true) (h : ∀ i : Int, 0 ≤ i → i < k → M (a + i) = M' i ∧ X (a + i) = X' i) : zu_fo M X (a + k) = zu_fo M' X' k := by
  unfold zu_fo
  rw [show (a + k).toNat = a.toNat + k.toNat by omega]
  refine zu_fo_skF a.toNat (fun i i0 i1 => h0 i i0 (by omega)) k.toNat (fun i i0 i1 => ?_)
  rw [show ((a.toNat : Nat) : Int) = a by omega]
  exact h i i0 (by omega)
end ZUfo
/-- the bits of a number, the 12th first, as the class looks at them -/
def zu_cM (m : Int) : Int → Bool := fun i => decide (zq_and m (zx_p2 (11 - i)) ≠ 0)
theorem zu_cM_n {m i : Int} (h : zq_and m (zx_p2 (11 - i)) = 0) : ¬ zu_cM m i = true := fun q => of_decide_eq_true q h
theorem zu_land2 (m j : Nat) : m &&& 2 ^ j = 0 ↔ m.testBit j = false := by
  constructor
  · intro h
    have q := congrArg (fun x => Nat.testBit x j) h
    have q : (m &&& 2 ^ j).testBit j = Nat.testBit 0 j := q
    rw [Nat.testBit_and, Nat.testBit_two_pow, decide_eq_true (rfl : j = j), Bool.and_true, Nat.zero_testBit] at q
    exact q
  · intro h
    refine Nat.eq_of_testBit_eq (fun i => ?_)
    rw [Nat.testBit_and, Nat.testBit_two_pow, Nat.zero_testBit]
    by_cases c : j = i
    · rw [← c, h, Bool.false_and]
    · rw [decide_eq_false c, Bool.and_false]
theorem zu_and_p2 {y j : Int} (hy : 0 ≤ y ∧ y ≤ 4095) (hj : 0 ≤ j ∧ j ≤ 11) : zq_and y (zx_p2 j) = 0 ↔ y / 2 ^ j.toNat % 2 = 0 := by
  obtain ⟨m, rfl⟩ := Int.eq_ofNat_of_zero_le hy.1
  have hp : zx_p2 j = ((2 ^ j.toNat : Nat) : Int) := by
    unfold zx_p2
    rw [Int.natCast_pow]
    rfl
  have hl := zx_p2_le (m := j) (n := 11) hj.2
  have e11 : zx_p2 11 = 2048 := rfl
  have e : (((m / 2 ^ j.toNat % 2 : Nat)) : Int) = (m : Int) / 2 ^ j.toNat % 2 := by
    rw [Int.natCast_emod, Int.natCast_ediv, Int.natCast_pow]
    rfl
  rw [hp, zt_andN (by omega) (by omega), ← e]
  have q := zu_land2 m j.toNat
  rw [Nat.testBit_eq_decide_div_mod_eq, decide_eq_false_iff_not] at q
  constructor
  · intro w
    have w : m &&& 2 ^ j.toNat = 0 := by omega
    have := q.mp w
    omega
  · intro w
    have := q.mpr (by omega)
    omega
/-- a FIELD of the reference -/
def zu_rf (ρ : zq_S) (o x f : Int) : Int := zu_fo (fun i => decide (zt_L ρ o i = 2 + f)) (fun i => decide (zt_bi (ρ 0 2) x i = 1)) (ρ 0 2)

