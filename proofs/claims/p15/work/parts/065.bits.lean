/-! ===== bits and bounds ===== -/
theorem zq_rng (z : Int32) : zq_in z.toInt := by
  have := fb_rng0 z
  omega
theorem zq_rngL (z : Int64) : zq_inL z.toInt := by
  have h1 := Int64.le_toInt z
  have h2 := Int64.toInt_lt z
  omega
theorem zq_and_in (x y : Int) : zq_in (zq_and x y) := zq_rng _
theorem zq_or_in (x y : Int) : zq_in (zq_or x y) := zq_rng _
theorem zq_xor_in (x y : Int) : zq_in (zq_xor x y) := zq_rng _
theorem zq_shl_in (x y : Int) : zq_in (zq_shl x y) := zq_rng _
theorem zq_shr_in (x y : Int) : zq_in (zq_shr x y) := zq_rng _
theorem zq_ushr_in (x y : Int) : zq_in (zq_ushr x y) := zq_rng _
theorem zq_rem_in (x y : Int) : zq_in (zq_rem x y) := zq_rng _
theorem zq_byte_in (x : Int) : zq_in (zq_byte x) := zq_rng _
theorem zq_short_in (x : Int) : zq_in (zq_short x) := zq_rng _
theorem zq_l2i_in (x : Int) : zq_in (zq_l2i x) := zq_rng _
theorem zq_landL_in (x y : Int) : zq_inL (zq_landL x y) := zq_rngL _
theorem zq_lshr_in (x y : Int) : zq_inL (zq_lshr x y) := zq_rngL _
theorem zq_lushr_in (x y : Int) : zq_inL (zq_lushr x y) := zq_rngL _
theorem zq_cmp_b (x y : Int) : (y < x → zq_cmp x y = 1) ∧ (x = y → zq_cmp x y = 0) ∧ (x < y → zq_cmp x y = -1) := by
  unfold zq_cmp
  refine ⟨fun h => by simp [h], fun h => by simp [h], fun h => ?_⟩
  rw [if_neg (by omega), if_neg (by omega)]
theorem zq_nI {x : Int} (h : 0 ≤ x) : Int32.ofInt x = nI x.toNat := by
  obtain ⟨n, rfl⟩ := Int.eq_ofNat_of_zero_le h
  apply Int32.toBitVec_inj.mp
  simp [nI]
theorem zq_nat {x : Int} (h : 0 ≤ x ∧ x ≤ 2147483647) : (Int32.ofInt x).toBitVec.toNat = x.toNat := by
  rw [zq_nI h.1, pk_tn (by omega)]
theorem zq_toInt {z : Int32} {n : Nat} (h : z.toBitVec.toNat = n) (hn : n < 2147483648) : z.toInt = n := by
  have : z = nI n := by
    apply Int32.toBitVec_inj.mp
    apply BitVec.eq_of_toNat_eq
    rw [h, pk_tn (by omega)]
  rw [this, nI_toInt (by omega)]
theorem zq_natM (x : Int) : (((Int32.ofInt x).toBitVec.toNat : Nat) : Int) = x % 4294967296 := by
  show (((BitVec.ofInt 32 x).toNat : Nat) : Int) = _
  rw [BitVec.toNat_ofInt]
  have : (0 : Int) ≤ x % ((2 ^ 32 : Nat) : Int) := Int.emod_nonneg _ (by decide)
  rw [Int.toNat_of_nonneg this]
  rfl
theorem zq_pow2 {a b : Nat} (h : a ≤ b) : (2 : Int) ^ a ≤ 2 ^ b := by
  have h1 : ((2 ^ a : Nat) : Int) ≤ ((2 ^ b : Nat) : Int) := Int.ofNat_le.mpr (Nat.pow_le_pow_right (by decide) h)
  simpa using h1
theorem zq_and_mask (x : Int) (k : Nat) (m M : Int) (hk : k ≤ 30) (hm : m = 2 ^ k - 1) (hM : M = 2 ^ k) : zq_and x m = x % M ∧ 0 ≤ zq_and x m ∧ zq_and x m ≤ m := by
  have h2 : (0 : Int) < 2 ^ k := Int.pow_pos (by decide)
  have h30 : (2 : Int) ^ k ≤ 1073741824 := by
    have : (2 : Int) ^ k ≤ 2 ^ 30 := zq_pow2 hk
    exact this
  have hmn : (Int32.ofInt m).toBitVec.toNat = 2 ^ k - 1 := by
    rw [zq_nat (by omega), hm]
    have : ((2 : Int) ^ k - 1) = (((2 ^ k - 1 : Nat)) : Int) := by
      have h1 : 1 ≤ 2 ^ k := Nat.one_le_two_pow
      rw [Int.ofNat_sub h1]
      simp
    rw [this]
    rfl
  have e : zq_and x m = ((((Int32.ofInt x).toBitVec.toNat % 2 ^ k : Nat)) : Int) := by
    unfold zq_and
    rw [pk_and (Int32.ofInt x) k hmn]
    have : (Int32.ofInt x).toBitVec.toNat % 2 ^ k < 2 ^ k := Nat.mod_lt _ (Nat.pow_pos (by decide))
    have h31 : 2 ^ k ≤ 2 ^ 30 := Nat.pow_le_pow_right (by decide) hk
    exact nI_toInt (by omega)
  have e2 : zq_and x m = x % M := by
    rw [e, Int.natCast_emod, zq_natM, hM]
    have : ((2 ^ k : Nat) : Int) = (2 : Int) ^ k := by simp
    rw [this]
    have hd : (2 : Int) ^ k ∣ 4294967296 := by
      have : (4294967296 : Int) = 2 ^ k * 2 ^ (32 - k) := by
        rw [← Int.pow_add, show k + (32 - k) = 32 by omega]
        rfl
      rw [this]
      exact Int.dvd_mul_right _ _
    exact Int.emod_emod_of_dvd x hd
  have h3 := Int.emod_nonneg x (b := M) (by omega)
  have h4 := Int.emod_lt_of_pos x (b := M) (by omega)
  refine ⟨e2, ?_, ?_⟩ <;> rw [e2] <;> omega
theorem zq_and_comm (x y : Int) : zq_and x y = zq_and y x := by
  unfold zq_and
  rw [Int32.and_comm]
theorem zq_and_nnL {x y : Int} (hx : 0 ≤ x ∧ x ≤ 2147483647) : 0 ≤ zq_and x y ∧ zq_and x y ≤ x := by
  have e : (Int32.ofInt x &&& Int32.ofInt y).toBitVec.toNat = x.toNat &&& (Int32.ofInt y).toBitVec.toNat := by
    rw [Int32.toBitVec_and, BitVec.toNat_and, zq_nat hx]
  have h := Nat.and_le_left (n := x.toNat) (m := (Int32.ofInt y).toBitVec.toNat)
  have h2 : zq_and x y = ((x.toNat &&& (Int32.ofInt y).toBitVec.toNat : Nat) : Int) := zq_toInt e (by omega)
  omega
theorem zq_and_nnR {x y : Int} (hy : 0 ≤ y ∧ y ≤ 2147483647) : 0 ≤ zq_and x y ∧ zq_and x y ≤ y := by
  rw [zq_and_comm]
  exact zq_and_nnL hy
theorem zq_or_b {x y : Int} (k : Nat) (M : Int) (hk : k ≤ 30) (hM : M = 2 ^ k) (hx : 0 ≤ x ∧ x < M) (hy : 0 ≤ y ∧ y < M) : 0 ≤ zq_or x y ∧ zq_or x y < M := by
  have hk2 : (2 : Nat) ^ k ≤ 2 ^ 30 := Nat.pow_le_pow_right (by decide) hk
  have hMn : M = ((2 ^ k : Nat) : Int) := by rw [hM]; simp
  have e : (Int32.ofInt x ||| Int32.ofInt y).toBitVec.toNat = x.toNat ||| y.toNat := by
    rw [Int32.toBitVec_or, BitVec.toNat_or, zq_nat (by omega), zq_nat (by omega)]
  have h : x.toNat ||| y.toNat < 2 ^ k := Nat.or_lt_two_pow (by omega) (by omega)
  have h2 : zq_or x y = ((x.toNat ||| y.toNat : Nat) : Int) := zq_toInt e (by omega)
  omega
theorem zq_xor_b {x y : Int} (k : Nat) (M : Int) (hk : k ≤ 30) (hM : M = 2 ^ k) (hx : 0 ≤ x ∧ x < M) (hy : 0 ≤ y ∧ y < M) : 0 ≤ zq_xor x y ∧ zq_xor x y < M := by
  have hk2 : (2 : Nat) ^ k ≤ 2 ^ 30 := Nat.pow_le_pow_right (by decide) hk
  have hMn : M = ((2 ^ k : Nat) : Int) := by rw [hM]; simp
  have e : (Int32.ofInt x ^^^ Int32.ofInt y).toBitVec.toNat = x.toNat ^^^ y.toNat := by
    rw [Int32.toBitVec_xor, BitVec.toNat_xor, zq_nat (by omega), zq_nat (by omega)]
  have h : x.toNat ^^^ y.toNat < 2 ^ k := Nat.xor_lt_two_pow (by omega) (by omega)
  have h2 : zq_xor x y = ((x.toNat ^^^ y.toNat : Nat) : Int) := zq_toInt e (by omega)
  omega
theorem zq_amt0 : ∀ j : Fin 31, ((Int32.ofInt ((j.val : Nat) : Int) &&& 31).toBitVec.smod 32).toNat = j.val := by decide
theorem zq_amt {y : Int} (h : 0 ≤ y ∧ y ≤ 30) : ((Int32.ofInt y &&& 31).toBitVec.smod 32).toNat = y.toNat := by
  obtain ⟨n, rfl⟩ := Int.eq_ofNat_of_zero_le h.1
  exact zq_amt0 ⟨n, by omega⟩
theorem zq_shl_v {x y : Int} (hx : 0 ≤ x) (hy : 0 ≤ y ∧ y ≤ 30) (h : x * 2 ^ y.toNat ≤ 2147483647) : zq_shl x y = x * 2 ^ y.toNat := by
  obtain ⟨n, rfl⟩ := Int.eq_ofNat_of_zero_le hx
  have hc : ((n * 2 ^ y.toNat : Nat) : Int) = (n : Int) * 2 ^ y.toNat := by simp
  unfold zq_shl
  rw [zq_nI hx, pk_shlN (Int32.ofInt y &&& 31) y.toNat (zq_amt hy) (by rw [Int.toNat_natCast]; omega), Int.toNat_natCast, nI_toInt (by omega)]
  exact hc
theorem zq_shl_one {y : Int} (u : Nat) (M : Int) (hu : u ≤ 30) (hM : M = 2 ^ u) (hy : 0 ≤ y ∧ y ≤ u) : zq_shl 1 y = 2 ^ y.toNat ∧ 1 ≤ zq_shl 1 y ∧ zq_shl 1 y ≤ M := by
  have h1 : (2 : Int) ^ y.toNat ≤ 2 ^ u := zq_pow2 (by omega)
  have h2 : (2 : Int) ^ u ≤ 2 ^ 30 := zq_pow2 hu
  have h3 : (0 : Int) < 2 ^ y.toNat := Int.pow_pos (by decide)
  have h4 : (2 : Int) ^ 30 = 1073741824 := rfl
  have e : zq_shl 1 y = 2 ^ y.toNat := by
    rw [zq_shl_v (by omega) (by omega) (by omega), Int.one_mul]
  refine ⟨e, ?_, ?_⟩ <;> rw [e] <;> omega
theorem zq_shl_c {x : Int} (k : Nat) (M : Int) (hk : k ≤ 30) (hM : M = 2 ^ k) (hx : 0 ≤ x ∧ x * M ≤ 2147483647) : zq_shl x k = x * M := by
  have := zq_shl_v (x := x) (y := k) hx.1 (by omega) (by rw [Int.toNat_natCast, ← hM]; exact hx.2)
  rw [this, Int.toNat_natCast, hM]
theorem zq_shr_v {x y : Int} (hx : 0 ≤ x ∧ x ≤ 2147483647) (hy : 0 ≤ y ∧ y ≤ 30) : zq_shr x y = x / 2 ^ y.toNat := by
  unfold zq_shr
  rw [pk_shr (Int32.ofInt x) (Int32.ofInt y &&& 31) y.toNat (zq_amt hy), zq_ofI (by omega)]
  rw [Int.shiftRight_eq_div_pow]
  simp
theorem zq_shr_c {x : Int} (k : Nat) (M : Int) (hk : k ≤ 30) (hM : M = 2 ^ k) (hx : 0 ≤ x ∧ x ≤ 2147483647) : zq_shr x k = x / M := by
  have := zq_shr_v (x := x) (y := k) hx (by omega)
  rw [this, Int.toNat_natCast, hM]
theorem zq_shr_nn {x y : Int} (hx : 0 ≤ x ∧ x ≤ 2147483647) : 0 ≤ zq_shr x y ∧ zq_shr x y ≤ x := by
  have e : zq_shr x y = x >>> ((Int32.ofInt y &&& 31).toBitVec.smod 32).toNat := by
    unfold zq_shr
    rw [pk_shr (Int32.ofInt x) (Int32.ofInt y &&& 31) _ rfl, zq_ofI (by omega)]
  rw [e, Int.shiftRight_eq_div_pow]
  generalize ((Int32.ofInt y &&& 31).toBitVec.smod 32).toNat = k
  have hp : (0 : Int) < ((2 ^ k : Nat) : Int) := by
    have : 0 < 2 ^ k := Nat.pow_pos (by decide)
    omega
  exact ⟨Int.ediv_nonneg hx.1 (Int.le_of_lt hp), Int.ediv_le_self _ hx.1⟩
theorem zq_div_v {x y : Int} (hx : 0 ≤ x ∧ x ≤ 2147483647) (hy : 0 < y ∧ y ≤ 2147483647) : zq_div x y = x / y := by
  obtain ⟨n, rfl⟩ := Int.eq_ofNat_of_zero_le hx.1
  obtain ⟨c, rfl⟩ := Int.eq_ofNat_of_zero_le (Int.le_of_lt hy.1)
  have hlt : n / c ≤ n := Nat.div_le_self n c
  unfold zq_div
  rw [zq_nI hx.1, zq_nI (Int.le_of_lt hy.1), Int.toNat_natCast, Int.toNat_natCast, pk_div (by omega) (by omega) (by omega), nI_toInt (by omega)]
  simp
theorem zq_rem_v {x y : Int} (hx : 0 ≤ x ∧ x ≤ 2147483647) (hy : 0 < y ∧ y ≤ 2147483647) : zq_rem x y = x % y := by
  obtain ⟨n, rfl⟩ := Int.eq_ofNat_of_zero_le hx.1
  obtain ⟨c, rfl⟩ := Int.eq_ofNat_of_zero_le (Int.le_of_lt hy.1)
  have hlt : n % c ≤ n := Nat.mod_le n c
  unfold zq_rem
  rw [zq_nI hx.1, zq_nI (Int.le_of_lt hy.1), Int.toNat_natCast, Int.toNat_natCast, pk_rem (by omega) (by omega) (by omega), nI_toInt (by omega)]
  simp
theorem zq_div_c {x : Int} (c : Int) (hc : 0 < c ∧ c ≤ 2147483647) (hx : 0 ≤ x ∧ x ≤ 2147483647) : zq_div x c = x / c := zq_div_v hx hc
theorem zq_rem_c {x : Int} (c : Int) (hc : 0 < c ∧ c ≤ 2147483647) (hx : 0 ≤ x ∧ x ≤ 2147483647) : zq_rem x c = x % c := zq_rem_v hx hc
theorem zq_div_b {x y : Int} (hx : 0 ≤ x ∧ x ≤ 2147483647) (hy : 0 < y ∧ y ≤ 2147483647) : zq_div x y = x / y ∧ 0 ≤ zq_div x y ∧ zq_div x y ≤ x := by
  rw [zq_div_v hx hy]
  exact ⟨rfl, Int.ediv_nonneg hx.1 (Int.le_of_lt hy.1), Int.ediv_le_self _ hx.1⟩
theorem zq_rem_b {x y : Int} (hx : 0 ≤ x ∧ x ≤ 2147483647) (hy : 0 < y ∧ y ≤ 2147483647) : zq_rem x y = x % y ∧ 0 ≤ zq_rem x y ∧ zq_rem x y < y := by
  rw [zq_rem_v hx hy]
  exact ⟨rfl, Int.emod_nonneg _ (by omega), Int.emod_lt_of_pos _ hy.1⟩
/-- a number of the stack by another text -/
theorem zr_eqI {V : Nat → List (Option zq_Z) → List zq_Z → Nat → zq_S → Prop} {pc n : Nat} {ls : List (Option zq_Z)} {st : List zq_Z} {σ : zq_S} {x : Int} (y : Int) (h : x = y) (k : V pc ls (ZI y :: st) n σ) : V pc ls (ZI x :: st) n σ := by
  rw [h]
  exact k

