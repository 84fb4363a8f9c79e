/-! ===== words as sets of stores ===== -/
def zw_tb (x : Int) (i : Nat) : Prop := x.toNat.testBit i = true
section ZWB
variable {x y n : Int} {i : Nat}
theorem zw_tb_or (hx : 0 ≤ x ∧ x < 4096) (hy : 0 ≤ y ∧ y < 4096) : zw_tb (zq_or x y) i ↔ zw_tb x i ∨ zw_tb y i := by
  obtain ⟨m, rfl⟩ := Int.eq_ofNat_of_zero_le hx.1
  obtain ⟨k, rfl⟩ := Int.eq_ofNat_of_zero_le hy.1
  unfold zw_tb
  rw [zt_orN (by omega) (by omega)]
  show (m ||| k).testBit i = true ↔ m.testBit i = true ∨ k.testBit i = true
  rw [Nat.testBit_or, Bool.or_eq_true]
theorem zw_tb_0 : ¬ zw_tb 0 i := by
  unfold zw_tb
  show ¬ Nat.testBit 0 i = true
  rw [Nat.zero_testBit]
  exact Bool.false_ne_true
theorem zw_tb_2 (k : Nat) (h : x = ((2 ^ k : Nat) : Int)) : zw_tb x i ↔ i = k := by
  unfold zw_tb
  rw [h]
  show (2 ^ k : Nat).testBit i = true ↔ _
  rw [Nat.testBit_two_pow, decide_eq_true_eq]
  exact ⟨fun e => e.symm, fun e => e.symm⟩
theorem zw_tb_and (hx : 0 ≤ x ∧ x < 1024) (hy : 0 ≤ y ∧ y < 1024) : zq_and x y ≠ 0 ↔ ∃ i : Nat, i < 10 ∧ zw_tb x i ∧ zw_tb y i := by
  obtain ⟨m, rfl⟩ := Int.eq_ofNat_of_zero_le hx.1
  obtain ⟨k, rfl⟩ := Int.eq_ofNat_of_zero_le hy.1
  rw [zt_andN (by omega) (by omega)]
  constructor
  · intro h
    have hn : m &&& k ≠ 0 := fun e => h (by rw [e]; rfl)
    obtain ⟨i, hi⟩ := Nat.exists_testBit_of_ne_zero hn
    rw [Nat.testBit_and, Bool.and_eq_true] at hi
    refine ⟨i, ?_, hi.1, hi.2⟩
    by_cases c : i < 10
    · exact c
    · have : m < 2 ^ i := Nat.lt_of_lt_of_le (show m < 2 ^ 10 by omega) (Nat.pow_le_pow_right (by decide) (by omega))
      rw [Nat.testBit_lt_two_pow this] at hi
      exact absurd hi.1 Bool.false_ne_true
  · rintro ⟨i, -, h1, h2⟩ h
    have h1 : m.testBit i = true := h1
    have h2 : k.testBit i = true := h2
    have e : m &&& k = 0 := by omega
    have z : (m &&& k).testBit i = true := by rw [Nat.testBit_and, h1, h2]; rfl
    rw [e, Nat.zero_testBit] at z
    exact Bool.false_ne_true z
end ZWB
/-- the stores of an operand: REGISTERS by number, 8 the MEMORY, 9 Z -/
def zw_os (F : Int → Int) (w : Int) (i : Nat) : Prop := (w < 3 ∧ (i : Int) = F w) ∨ (w = 4 ∧ i = 9) ∨ (6 ≤ w ∧ w ≤ 9 ∧ i = 8) ∨ (6 ≤ w ∧ w < 9 ∧ (i : Int) = F (w - 6))
def zw_ob (F : Int → Int) (w : Int) (i : Nat) : Prop := 6 ≤ w ∧ w < 9 ∧ (i : Int) = F (w - 6)
/-- what is used by n ACTS, what is aimed at -/
def zw_us (F A : Int → Int) (p n g d : Int) (i : Nat) : Prop := (g ≠ 0 ∧ zw_os F d i) ∨ ∃ j : Int, (0 ≤ j ∧ j < n) ∧ (zw_ob F (A (p + 6 * j)) i ∨ zw_os F (A (p + 6 * j + 1)) i ∨ (0 < A (p + 6 * j + 3) ∧ zw_os F (A (p + 6 * j + 4)) i))
def zw_at (F : Int → Int) (w : Int) (i : Nat) : Prop := (w < 3 ∧ (i : Int) = F w) ∨ (w = 4 ∧ i = 9) ∨ (6 ≤ w ∧ i = 8)
def zw_ts (F A : Int → Int) (p n : Int) (i : Nat) : Prop := ∃ j : Int, (0 ≤ j ∧ j < n) ∧ zw_at F (A (p + 6 * j)) i
section ZWU
variable {F A : Int → Int} {p n g d : Int} {i : Nat}
theorem zw_us_0 : zw_us F A p 0 g d i ↔ (g ≠ 0 ∧ zw_os F d i) := ⟨fun h => by rcases h with h | ⟨j, hj, -⟩; exact h; omega, Or.inl⟩
theorem zw_us_s (h0 : 0 ≤ n) : zw_us F A p (n + 1) g d i ↔ zw_us F A p n g d i ∨ (zw_ob F (A (p + 6 * n)) i ∨ zw_os F (A (p + 6 * n + 1)) i ∨ (0 < A (p + 6 * n + 3) ∧ zw_os F (A (p + 6 * n + 4)) i)) := by
  constructor
  · rintro (h | ⟨j, hj, h⟩)
    · exact Or.inl (Or.inl h)
    · by_cases c : j = n
      · exact Or.inr (c ▸ h)
      · exact Or.inl (Or.inr ⟨j, by omega, h⟩)
  · rintro ((h | ⟨j, hj, h⟩) | h)
    · exact Or.inl h
    · exact Or.inr ⟨j, by omega, h⟩
    · exact Or.inr ⟨n, by omega, h⟩
theorem zw_ts_0 : ¬ zw_ts F A p 0 i := fun ⟨j, hj, _⟩ => by omega
theorem zw_ts_s (h0 : 0 ≤ n) : zw_ts F A p (n + 1) i ↔ zw_ts F A p n i ∨ zw_at F (A (p + 6 * n)) i := by
  constructor
  · rintro ⟨j, hj, h⟩
    by_cases c : j = n
    · exact Or.inr (c ▸ h)
    · exact Or.inl ⟨j, by omega, h⟩
  · rintro (⟨j, hj, h⟩ | h)
    · exact ⟨j, by omega, h⟩
    · exact ⟨n, by omega, h⟩
end ZWU
/-- the class's letters as stores: 8 Z, 9 the MEMORY -/
def zw_ls (F : Int → Int) (x : Int) (i : Nat) : Prop := ((∃ f : Int, (0 ≤ f ∧ f < 3) ∧ zw_tb x f.toNat ∧ (i : Int) = F f) ∨ (zw_tb x 3 ∧ i = 8)) ∨ (zw_tb x 5 ∧ i = 9)

