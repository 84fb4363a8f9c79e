/-! ===== a LOOK, as it is read ===== -/
def zt_lc (c : Int) : Int := if c = 48 then 0 else if c = 49 then 1 else if zt_fl c < 0 then -1 else 2 + zt_fl c
theorem zt_lc_b (c : Int) : -1 ≤ zt_lc c ∧ zt_lc c ≤ 5 ∧ (0 ≤ zt_lc c → 48 ≤ c) ∧ (zt_lc c = 0 ↔ c = 48) ∧ (zt_lc c = 1 ↔ c = 49) ∧ (2 ≤ zt_lc c ↔ 0 ≤ zt_fl c) ∧ (0 ≤ zt_fl c → zt_lc c = 2 + zt_fl c) := by
  have hb := zt_fl_b c
  unfold zt_lc
  repeat' split
  all_goals omega
section ZTLook
variable (t : Int → Int) (n a : Int)
def zt_lpF : Nat → Int
  | 0 => a
  | k + 1 => zt_sk t n (zt_lpF k) + 1
def zt_lp (j : Int) : Int := zt_lpF t n a j.toNat
def zt_lv (j : Int) : Int := zt_lc (zt_nx t n (zt_lp t n a j))
/-- how many of b can stand -/
def zt_lr (b j : Int) : Int := zt_rn (fun i => decide (0 ≤ zt_lv t n a i)) b j
end ZTLook
theorem zt_lp_0 (t : Int → Int) (n a : Int) : zt_lp t n a 0 = a := rfl
theorem zt_lp_s (t : Int → Int) (n a : Int) {j : Int} (h : 0 ≤ j) : zt_lp t n a (j + 1) = zt_sk t n (zt_lp t n a j) + 1 := by
  unfold zt_lp
  rw [show (j + 1).toNat = j.toNat + 1 by omega]
  rfl
theorem zt_lr_y {t : Int → Int} {n a b j : Int} (h : j < b) (hv : 0 ≤ zt_lv t n a j) : zt_lr t n a b j = zt_lr t n a b (j + 1) := zt_rn_y ⟨h, decide_eq_true hv⟩
theorem zt_lr_n {t : Int → Int} {n a b j : Int} (h : ¬ (j < b ∧ 0 ≤ zt_lv t n a j)) : zt_lr t n a b j = j := zt_rn_n (fun q => h ⟨q.1, of_decide_eq_true q.2⟩)
/-- bits, the highest first -/
def zt_mkF (P : Int → Bool) : Nat → Int
  | 0 => 0
  | k + 1 => 2 * zt_mkF P k + (if P k = true then 1 else 0)
def zt_mk (P : Int → Bool) (j : Int) : Int := zt_mkF P j.toNat
theorem zt_mk_0 (P : Int → Bool) : zt_mk P 0 = 0 := rfl
theorem zt_mk_e (P : Int → Bool) {j : Int} (h : 0 ≤ j) : zt_mk P (j + 1) = 2 * zt_mk P j + (if P j = true then 1 else 0) := by
  unfold zt_mk
  rw [show (j + 1).toNat = j.toNat + 1 by omega]
  show 2 * zt_mkF P j.toNat + (if P (j.toNat : Int) = true then 1 else 0) = _
  rw [show (j.toNat : Int) = j by omega]
theorem zt_mk_y {P : Int → Bool} {j : Int} (h : 0 ≤ j) (hp : P j = true) : zt_mk P (j + 1) = 2 * zt_mk P j + 1 := by rw [zt_mk_e P h, if_pos hp]
theorem zt_mk_n {P : Int → Bool} {j : Int} (h : 0 ≤ j) (hp : ¬ P j = true) : zt_mk P (j + 1) = 2 * zt_mk P j := by rw [zt_mk_e P h, if_neg hp, Int.add_zero]
theorem zt_mk_b (P : Int → Bool) : ∀ (k : Nat), 0 ≤ zt_mkF P k ∧ zt_mkF P k < 2 ^ k := by
  intro k
  induction k with
  | zero => exact ⟨Int.le_refl 0, by show (0 : Int) < 2 ^ 0; decide⟩
  | succ k ih =>
    show 0 ≤ 2 * zt_mkF P k + (if P k = true then 1 else 0) ∧ 2 * zt_mkF P k + (if P k = true then 1 else 0) < 2 ^ (k + 1)
    rw [show (2 : Int) ^ (k + 1) = 2 * 2 ^ k by rw [Int.pow_succ]; omega]
    split <;> omega
theorem zt_mk_r (P : Int → Bool) (j : Int) : 0 ≤ zt_mk P j ∧ zt_mk P j < zx_p2 j := zt_mk_b P _
theorem zt_mk_cF {P Q : Int → Bool} : ∀ (k : Nat), (∀ i : Int, 0 ≤ i → i < k → P i = Q i) → zt_mkF P k = zt_mkF Q k := by
  intro k
  induction k with
  | zero => intro _; rfl
  | succ k ih =>
    intro h
    show 2 * zt_mkF P k + (if P k = true then 1 else 0) = 2 * zt_mkF Q k + (if Q k = true then 1 else 0)
    rw [ih (fun i h0 h1 => h i h0 (by omega)), h k (by omega) (by omega)]
theorem zt_mk_c {P Q : Int → Bool} {j : Int} (h : ∀ i, 0 ≤ i → i < j → P i = Q i) : zt_mk P j = zt_mk Q j := zt_mk_cF _ (fun i h0 h1 => h i h0 (by omega))
/-- a bit more, lower than all that stand -/
theorem zt_or_add {x q : Int} (k : Nat) (hq : q = 2 ^ k) (hk : k ≤ 20) (m : Int) (hx : x = m * (2 * q)) (hm : 0 ≤ m) (hx2 : x ≤ 1000000000) : zq_or x q = x + q := by
  obtain ⟨M, rfl⟩ := Int.eq_ofNat_of_zero_le hm
  have hq1 : q = ((2 ^ k : Nat) : Int) := by rw [hq]; exact (Int.natCast_pow 2 k).symm
  have hx1 : x = ((2 ^ (k + 1) * M : Nat) : Int) := by
    rw [hx, hq1, Nat.pow_succ]
    push_cast
    rw [Int.mul_comm, Int.mul_comm ((2 : Int) ^ k) 2]
  have hp : (2 ^ k : Nat) ≤ 2 ^ 20 := Nat.pow_le_pow_right (by decide) hk
  have hp2 : (2 ^ 20 : Nat) = 1048576 := by decide
  have hb : 0 ≤ x ∧ x ≤ 2147483647 := ⟨by rw [hx1]; exact Int.natCast_nonneg _, by omega⟩
  have hc : 0 ≤ q ∧ q ≤ 2147483647 := ⟨by rw [hq1]; exact Int.natCast_nonneg _, by omega⟩
  have h1 : (Int32.ofInt x ||| Int32.ofInt q).toBitVec.toNat = x.toNat + q.toNat := by
    rw [Int32.toBitVec_or, BitVec.toNat_or, zq_nat hb, zq_nat hc, hx1, hq1]
    rw [Int.toNat_natCast, Int.toNat_natCast]
    exact (Nat.two_pow_add_eq_or_of_lt (Nat.pow_lt_pow_right (by decide) (Nat.lt_succ_self k)) M).symm
  show (Int32.ofInt x ||| Int32.ofInt q).toInt = x + q
  rw [zq_toInt h1 (by omega)]
  omega
/-- a mask that is j bits of b so far -/
theorem zt_or_mk {P : Int → Bool} {b j x q : Int} (h0 : 0 ≤ j) (h1 : j < b) (hb : b ≤ 12) (hx : x = zt_mk P j * zx_p2 (b - j)) (hq : q = zx_p2 (b - 1 - j)) (hp : P j = true) : zq_or x q = zt_mk P (j + 1) * zx_p2 (b - (j + 1)) := by
  have e1 : zx_p2 (b - j) = 2 * zx_p2 (b - 1 - j) := by rw [show b - j = b - 1 - j + 1 by omega]; exact zx_p2_s _ (by omega)
  have hr := zt_mk_r P j
  have hle := zx_p2_le (m := j) (n := 12) (by omega)
  have hle2 := zx_p2_le (m := b - 1 - j) (n := 12) (by omega)
  have e12 := zx_p2_12
  have hpos := zx_p2_pos (b - 1 - j)
  have hx2 : zt_mk P j * (2 * zx_p2 (b - 1 - j)) ≤ 1000000000 := by
    have := Int.mul_le_mul (a := zt_mk P j) (b := 2 * zx_p2 (b - 1 - j)) (c := 4096) (d := 8192) (by omega) (by omega) (by omega) (by omega)
    omega
  rw [zt_or_add (b - 1 - j).toNat hq (by omega) (zt_mk P j) (by rw [hx, e1, hq]) hr.1 (by rw [hx, e1]; exact hx2), zt_mk_y h0 hp, hx, e1, hq, show b - (j + 1) = b - 1 - j by omega, Int.add_mul, Int.one_mul, ← Int.mul_assoc, Int.mul_comm (zt_mk P j) 2]
theorem zt_no_mk {P : Int → Bool} {b j x : Int} (h0 : 0 ≤ j) (h1 : j < b) (hx : x = zt_mk P j * zx_p2 (b - j)) (hp : ¬ P j = true) : x = zt_mk P (j + 1) * zx_p2 (b - (j + 1)) := by
  have e1 : zx_p2 (b - j) = 2 * zx_p2 (b - 1 - j) := by rw [show b - j = b - 1 - j + 1 by omega]; exact zx_p2_s _ (by omega)
  rw [zt_mk_n h0 hp, hx, e1, show b - (j + 1) = b - 1 - j by omega, ← Int.mul_assoc, Int.mul_comm (zt_mk P j) 2]
theorem zt_mk_nz {P : Int → Bool} : ∀ (k : Nat), zt_mkF P k ≠ 0 ↔ ∃ i : Int, 0 ≤ i ∧ i < k ∧ P i = true := by
  intro k
  induction k with
  | zero => exact ⟨fun h => absurd rfl h, fun ⟨i, h0, h1, _⟩ => by omega⟩
  | succ k ih =>
    have hr := zt_mk_b P k
    have e : zt_mkF P (k + 1) = 2 * zt_mkF P k + (if P k = true then 1 else 0) := rfl
    rw [e]
    constructor
    · intro h
      by_cases hp : P k = true
      · exact ⟨k, by omega, by omega, hp⟩
      · rw [if_neg hp] at h
        obtain ⟨i, h0, h1, h2⟩ := ih.mp (by omega)
        exact ⟨i, h0, by omega, h2⟩
    · intro ⟨i, h0, h1, h2⟩
      by_cases hi : i = k
      · rw [if_pos (hi ▸ h2)]; omega
      · have := ih.mpr ⟨i, h0, by omega, h2⟩
        split <;> omega
theorem zt_or_0 {x : Int} (h : 0 ≤ x ∧ x ≤ 2147483647) : zq_or x 0 = x := by
  have h1 : (Int32.ofInt x ||| Int32.ofInt 0).toBitVec.toNat = x.toNat := by
    rw [Int32.toBitVec_or, BitVec.toNat_or, zq_nat h, zq_nat ⟨by decide, by decide⟩]
    exact Nat.or_zero _
  show (Int32.ofInt x ||| Int32.ofInt 0).toInt = x
  rw [zq_toInt h1 (by omega)]
  omega
theorem zt_na_z (t : Int → Int) (n s : Int) : zt_na t s (zt_nl t n s) = 0 ↔ zt_nl t n s = 0 := by
  have hb := zt_nl_b t n s
  have h0 := fun h => zt_nl_s (t := t) (n := n) (s := s) 0 (by omega) h
  have h1 := fun h => zt_nl_s (t := t) (n := n) (s := s) 1 (by omega) h
  have h2 := fun h => zt_nl_s (t := t) (n := n) (s := s) 2 (by omega) h
  rw [Int.add_zero] at h0
  constructor
  · intro h
    unfold zt_na at h
    by_cases c0 : zt_nl t n s = 0
    · exact c0
    exfalso
    rw [if_neg c0] at h
    have a0 := h0 (by omega)
    by_cases c1 : zt_nl t n s = 1
    · rw [if_pos c1] at h; omega
    rw [if_neg c1] at h
    have a1 := h1 (by omega)
    by_cases c2 : zt_nl t n s = 2
    · rw [if_pos c2] at h; omega
    rw [if_neg c2] at h
    have a2 := h2 (by omega)
    omega
  · intro h
    rw [h, zt_na_0]
/-- how many bits stand, as Integer.bitCount reckons it -/
def zt_bc (i : Int) : Int :=
  let a := i - zq_and (zq_ushr i 1) 1431655765
  let b := zq_and a 858993459 + zq_and (zq_ushr a 2) 858993459
  let c := zq_and (b + zq_ushr b 4) 252645135
  let d := c + zq_ushr c 8
  let e := d + zq_ushr d 16
  zq_and e 63
/-- FIELDS as told: K bits or none of d, s, t; W at most of i -/
def zt_fok (m : Int → Int) (k w : Int) : Prop := (∀ f, 0 ≤ f → f ≤ 2 → m f ≠ 0 → zt_bc (m f) = k) ∧ zt_bc (m 3) ≤ w
