/-! ===== bits, one by one ===== -/
def zt_mkN (P : Int → Bool) : Nat → Nat
  | 0 => 0
  | k + 1 => 2 * zt_mkN P k + (P k).toNat
theorem zt_mkN_F (P : Int → Bool) : ∀ (k : Nat), zt_mkF P k = (zt_mkN P k : Int) := by
  intro k
  induction k with
  | zero => rfl
  | succ k ih =>
    show 2 * zt_mkF P k + (if P k = true then 1 else 0) = ((2 * zt_mkN P k + (P k).toNat : Nat) : Int)
    rw [ih]
    cases h : P (k : Int)
    · simp
    · simp
theorem zt_land (a b e f : Nat) (he : e ≤ 1) (hf : f ≤ 1) : (2 * a + e) &&& (2 * b + f) = 2 * (a &&& b) + (e &&& f) := by
  have h1 : ((2 * a + e) &&& (2 * b + f)) / 2 = a &&& b := by rw [Nat.and_div_two, show (2 * a + e) / 2 = a by omega, show (2 * b + f) / 2 = b by omega]
  have h2 : ((2 * a + e) &&& (2 * b + f)) % 2 = (e &&& f) := by
    have := Nat.and_mod_two_pow (a := 2 * a + e) (b := 2 * b + f) (n := 1)
    rw [Nat.pow_one, show (2 * a + e) % 2 = e by omega, show (2 * b + f) % 2 = f by omega] at this
    exact this
  omega
theorem zt_lor (a b e f : Nat) (he : e ≤ 1) (hf : f ≤ 1) : (2 * a + e) ||| (2 * b + f) = 2 * (a ||| b) + (e ||| f) := by
  have h1 : ((2 * a + e) ||| (2 * b + f)) / 2 = a ||| b := by rw [Nat.or_div_two, show (2 * a + e) / 2 = a by omega, show (2 * b + f) / 2 = b by omega]
  have h2 : ((2 * a + e) ||| (2 * b + f)) % 2 = (e ||| f) := by
    have := Nat.or_mod_two_pow (a := 2 * a + e) (b := 2 * b + f) (n := 1)
    rw [Nat.pow_one, show (2 * a + e) % 2 = e by omega, show (2 * b + f) % 2 = f by omega] at this
    exact this
  omega
theorem zt_lxor (a b e f : Nat) (he : e ≤ 1) (hf : f ≤ 1) : (2 * a + e) ^^^ (2 * b + f) = 2 * (a ^^^ b) + (e ^^^ f) := by
  have h1 : ((2 * a + e) ^^^ (2 * b + f)) / 2 = a ^^^ b := by rw [Nat.xor_div_two, show (2 * a + e) / 2 = a by omega, show (2 * b + f) / 2 = b by omega]
  have h2 : ((2 * a + e) ^^^ (2 * b + f)) % 2 = (e ^^^ f) := by
    have := Nat.xor_mod_two_pow (a := 2 * a + e) (b := 2 * b + f) (n := 1)
    rw [Nat.pow_one, show (2 * a + e) % 2 = e by omega, show (2 * b + f) % 2 = f by omega] at this
    exact this
  omega
theorem zt_tn (c : Bool) : c.toNat ≤ 1 := by cases c <;> decide
theorem zt_mkN_and (P Q : Int → Bool) : ∀ (k : Nat), zt_mkN P k &&& zt_mkN Q k = zt_mkN (fun i => P i && Q i) k := by
  intro k
  induction k with
  | zero => exact (by decide : (0 : Nat) &&& 0 = 0)
  | succ k ih =>
    show (2 * zt_mkN P k + (P k).toNat) &&& (2 * zt_mkN Q k + (Q k).toNat) = 2 * zt_mkN (fun i => P i && Q i) k + (P k && Q k).toNat
    rw [zt_land _ _ _ _ (zt_tn _) (zt_tn _), ih]
    cases P (k : Int) <;> cases Q (k : Int) <;> rfl
theorem zt_mkN_or (P Q : Int → Bool) : ∀ (k : Nat), zt_mkN P k ||| zt_mkN Q k = zt_mkN (fun i => P i || Q i) k := by
  intro k
  induction k with
  | zero => exact (by decide : (0 : Nat) ||| 0 = 0)
  | succ k ih =>
    show (2 * zt_mkN P k + (P k).toNat) ||| (2 * zt_mkN Q k + (Q k).toNat) = 2 * zt_mkN (fun i => P i || Q i) k + (P k || Q k).toNat
    rw [zt_lor _ _ _ _ (zt_tn _) (zt_tn _), ih]
    cases P (k : Int) <;> cases Q (k : Int) <;> rfl
theorem zt_mkN_xor (P Q : Int → Bool) : ∀ (k : Nat), zt_mkN P k ^^^ zt_mkN Q k = zt_mkN (fun i => Bool.xor (P i) (Q i)) k := by
  intro k
  induction k with
  | zero => exact (by decide : (0 : Nat) ^^^ 0 = 0)
  | succ k ih =>
    show (2 * zt_mkN P k + (P k).toNat) ^^^ (2 * zt_mkN Q k + (Q k).toNat) = 2 * zt_mkN (fun i => Bool.xor (P i) (Q i)) k + (Bool.xor (P k) (Q k)).toNat
    rw [zt_lxor _ _ _ _ (zt_tn _) (zt_tn _), ih]
    cases P (k : Int) <;> cases Q (k : Int) <;> rfl
theorem zt_mkN_lt (P : Int → Bool) {b : Int} (hb : b ≤ 12) : zt_mkN P b.toNat < 4096 := by
  have h := zt_mk_r P b
  have h2 := zx_p2_le (m := b) (n := 12) hb
  have e12 := zx_p2_12
  have h3 := zt_mkN_F P b.toNat
  have h4 : zt_mk P b = zt_mkF P b.toNat := rfl
  omega
theorem zt_mkI (P : Int → Bool) (b : Int) : zt_mk P b = (zt_mkN P b.toNat : Int) := zt_mkN_F P _
theorem zt_andN {m n : Nat} (hm : m < 4096) (hn : n < 4096) : zq_and (m : Int) (n : Int) = ((m &&& n : Nat) : Int) := by
  have h1 : (Int32.ofInt (m : Int) &&& Int32.ofInt (n : Int)).toBitVec.toNat = m &&& n := by
    rw [Int32.toBitVec_and, BitVec.toNat_and, zq_nat ⟨by omega, by omega⟩, zq_nat ⟨by omega, by omega⟩]
    rfl
  have h2 : m &&& n ≤ m := Nat.and_le_left
  show (Int32.ofInt (m : Int) &&& Int32.ofInt (n : Int)).toInt = _
  exact zq_toInt h1 (by omega)
theorem zt_orN {m n : Nat} (hm : m < 4096) (hn : n < 4096) : zq_or (m : Int) (n : Int) = ((m ||| n : Nat) : Int) := by
  have h1 : (Int32.ofInt (m : Int) ||| Int32.ofInt (n : Int)).toBitVec.toNat = m ||| n := by
    rw [Int32.toBitVec_or, BitVec.toNat_or, zq_nat ⟨by omega, by omega⟩, zq_nat ⟨by omega, by omega⟩]
    rfl
  have h2 : m ||| n < 2 ^ 12 := Nat.or_lt_two_pow hm hn
  show (Int32.ofInt (m : Int) ||| Int32.ofInt (n : Int)).toInt = _
  exact zq_toInt h1 (by omega)
theorem zt_xorN {m n : Nat} (hm : m < 4096) (hn : n < 4096) : zq_xor (m : Int) (n : Int) = ((m ^^^ n : Nat) : Int) := by
  have h1 : (Int32.ofInt (m : Int) ^^^ Int32.ofInt (n : Int)).toBitVec.toNat = m ^^^ n := by
    rw [Int32.toBitVec_xor, BitVec.toNat_xor, zq_nat ⟨by omega, by omega⟩, zq_nat ⟨by omega, by omega⟩]
    rfl
  have h2 : m ^^^ n < 2 ^ 12 := Nat.xor_lt_two_pow hm hn
  show (Int32.ofInt (m : Int) ^^^ Int32.ofInt (n : Int)).toInt = _
  exact zq_toInt h1 (by omega)
theorem zt_mk_and (P Q : Int → Bool) {b : Int} (hb : b ≤ 12) : zq_and (zt_mk P b) (zt_mk Q b) = zt_mk (fun i => P i && Q i) b := by
  rw [zt_mkI, zt_mkI, zt_mkI, zt_andN (zt_mkN_lt P hb) (zt_mkN_lt Q hb), zt_mkN_and]
theorem zt_mk_or (P Q : Int → Bool) {b : Int} (hb : b ≤ 12) : zq_or (zt_mk P b) (zt_mk Q b) = zt_mk (fun i => P i || Q i) b := by
  rw [zt_mkI, zt_mkI, zt_mkI, zt_orN (zt_mkN_lt P hb) (zt_mkN_lt Q hb), zt_mkN_or]
theorem zt_mk_xor (P Q : Int → Bool) {b : Int} (hb : b ≤ 12) : zq_xor (zt_mk P b) (zt_mk Q b) = zt_mk (fun i => Bool.xor (P i) (Q i)) b := by
  rw [zt_mkI, zt_mkI, zt_mkI, zt_xorN (zt_mkN_lt P hb) (zt_mkN_lt Q hb), zt_mkN_xor]
theorem zt_mkN_inj {P Q : Int → Bool} : ∀ (k : Nat), zt_mkN P k = zt_mkN Q k → ∀ i : Int, 0 ≤ i → i < k → P i = Q i := by
  intro k
  induction k with
  | zero => intro _ i h0 h1; omega
  | succ k ih =>
    intro h i h0 h1
    have h : 2 * zt_mkN P k + (P k).toNat = 2 * zt_mkN Q k + (Q k).toNat := h
    have hp := zt_tn (P k)
    have hq := zt_tn (Q k)
    by_cases hi : i = k
    · rw [hi]
      have : (P k).toNat = (Q k).toNat := by omega
      revert this
      cases P (k : Int) <;> cases Q (k : Int) <;> decide
    · exact ih (by omega) i h0 (by omega)
theorem zt_mk_inj {P Q : Int → Bool} {b : Int} (h : zt_mk P b = zt_mk Q b) : ∀ i, 0 ≤ i → i < b → P i = Q i := fun i h0 h1 => by
  rw [zt_mkI, zt_mkI] at h
  exact zt_mkN_inj b.toNat (by omega) i h0 (by omega)
/-- the bit at a place of b, the highest first -/
def zt_bi (b x i : Int) : Int := zq_and (zq_shr x (b - 1 - i)) 1
theorem zt_bi_v {b x i : Int} (hx : 0 ≤ x ∧ x ≤ 4095) (h0 : 0 ≤ i) (h1 : i < b) (hb : b ≤ 12) : zt_bi b x i = x / 2 ^ (b - 1 - i).toNat % 2 := by
  unfold zt_bi
  rw [zq_shr_v (by omega) (by omega), (zq_and_mask _ 1 1 2 (by decide) (by decide) (by decide)).1]
theorem zt_bi_01 {b x i : Int} (hx : 0 ≤ x ∧ x ≤ 4095) (h0 : 0 ≤ i) (h1 : i < b) (hb : b ≤ 12) : zt_bi b x i = 0 ∨ zt_bi b x i = 1 := by
  rw [zt_bi_v hx h0 h1 hb]
  omega
theorem zt_mk_divF {b x : Int} (hx : 0 ≤ x ∧ x ≤ 4095) (hb : b ≤ 12) (hp : x < 2 ^ b.toNat) : ∀ (j : Nat), (j : Int) ≤ b → zt_mkF (fun i => decide (zt_bi b x i = 1)) j = x / 2 ^ (b - j).toNat := by
  intro j
  induction j with
  | zero =>
    intro h
    show (0 : Int) = x / 2 ^ (b - (0 : Nat)).toNat
    rw [show (b - ((0 : Nat) : Int)).toNat = b.toNat by omega]
    exact (Int.ediv_eq_zero_of_lt hx.1 hp).symm
  | succ j ih =>
    intro h
    have h1 := ih (by omega)
    show 2 * zt_mkF (fun i => decide (zt_bi b x i = 1)) j + (if decide (zt_bi b x j = 1) = true then 1 else 0) = _
    rw [h1, show (b - ((j + 1 : Nat) : Int)).toNat = (b - 1 - (j : Int)).toNat by omega, show (b - (j : Int)).toNat = (b - 1 - (j : Int)).toNat + 1 by omega, Int.pow_succ, ← Int.ediv_ediv_of_nonneg (Int.pow_nonneg (by decide))]
    have h2 := zt_bi_v (b := b) (x := x) (i := j) hx (by omega) (by omega) hb
    by_cases c : zt_bi b x j = 1
    · rw [if_pos (decide_eq_true c)]; omega
    · rw [if_neg (fun q => c (of_decide_eq_true q))]
      have := zt_bi_01 (b := b) (x := x) (i := j) hx (by omega) (by omega) hb
      omega
/-- every number is its bits -/
theorem zt_mk_bi {b x : Int} (h0 : 0 ≤ b) (hb : b ≤ 12) (hx : 0 ≤ x ∧ x < zx_p2 b) : x = zt_mk (fun i => decide (zt_bi b x i = 1)) b := by
  have h2 := zx_p2_le (m := b) (n := 12) hb
  have e12 := zx_p2_12
  have h := zt_mk_divF (b := b) (x := x) (by omega) hb hx.2 b.toNat (by omega)
  unfold zt_mk
  rw [h, show (b - (b.toNat : Int)).toNat = 0 by omega]
  exact (Int.ediv_one x).symm
theorem zt_bi_mk {P : Int → Bool} {b : Int} (h0 : 0 ≤ b) (hb : b ≤ 12) {i : Int} (i0 : 0 ≤ i) (i1 : i < b) : zt_bi b (zt_mk P b) i = 1 ↔ P i = true := by
  have h := zt_mk_inj (zt_mk_bi h0 hb (zt_mk_r P b)) i i0 i1
  rw [h]
  exact ⟨fun q => decide_eq_true q, fun q => of_decide_eq_true q⟩
/-- bits that are an ORDER's, by its LOOK -/
def zt_is (L : Int → Int) (b x : Int) : Prop := ∀ i, 0 ≤ i → i < b → 1 < L i ∨ L i = zt_bi b x i
theorem zt_is_iff {L : Int → Int} {b x m v : Int} (h0 : 0 ≤ b) (hb : b ≤ 12) (hx : 0 ≤ x ∧ x < zx_p2 b) (hL : ∀ i, 0 ≤ i → i < b → 0 ≤ L i) (hm : m = zt_mk (fun i => decide (L i ≤ 1)) b) (hv : v = zt_mk (fun i => decide (L i = 1)) b) : zq_and x m = v ↔ zt_is L b x := by
  have h2 := zx_p2_le (m := b) (n := 12) hb
  have e12 := zx_p2_12
  have e := zt_mk_bi h0 hb hx
  have e1 : zq_and x m = zt_mk (fun i => decide (zt_bi b x i = 1) && decide (L i ≤ 1)) b := by
    rw [hm]
    exact (congrArg (fun y => zq_and y _) e).trans (zt_mk_and _ _ hb)
  rw [e1, hv]
  constructor
  · intro h i i0 i1
    have q := zt_mk_inj h i i0 i1
    have hl := hL i i0 i1
    have hc := zt_bi_01 (b := b) (x := x) (i := i) (by omega) i0 i1 hb
    by_cases c1 : 1 < L i
    · exact Or.inl c1
    · refine Or.inr ?_
      rw [decide_eq_true (show L i ≤ 1 by omega), Bool.and_true] at q
      have q2 := decide_eq_decide.mp q
      omega
  · intro h
    refine zt_mk_c (fun i i0 i1 => ?_)
    have q := h i i0 i1
    have hc := zt_bi_01 (b := b) (x := x) (i := i) (by omega) i0 i1 hb
    by_cases c1 : L i ≤ 1
    · rw [decide_eq_true c1, Bool.and_true]
      exact decide_eq_decide.mpr (by omega)
    · rw [decide_eq_false c1, Bool.and_false]
      exact (decide_eq_false (by omega)).symm
/-- two LOOKS that some bits have both -/
def zt_co (L M : Int → Int) (b : Int) : Prop := ∀ i, 0 ≤ i → i < b → 1 < L i ∨ 1 < M i ∨ L i = M i
/-- the least such bits -/
def zt_cb (L M : Int → Int) (b : Int) : Int := zt_mk (fun i => decide (L i = 1) || decide (M i = 1)) b
theorem zt_co_iff {L M : Int → Int} {b : Int} (hb : b ≤ 12) (h0 : 0 ≤ b) (hL : ∀ i, 0 ≤ i → i < b → 0 ≤ L i) (hM : ∀ i, 0 ≤ i → i < b → 0 ≤ M i) : zq_and (zq_and (zq_xor (zt_mk (fun i => decide (L i = 1)) b) (zt_mk (fun i => decide (M i = 1)) b)) (zt_mk (fun i => decide (L i ≤ 1)) b)) (zt_mk (fun i => decide (M i ≤ 1)) b) = 0 ↔ zt_co L M b := by
  rw [zt_mk_xor _ _ hb, zt_mk_and _ _ hb, zt_mk_and _ _ hb]
  have hz := zt_mk_nz (P := fun i => (Bool.xor (decide (L i = 1)) (decide (M i = 1)) && decide (L i ≤ 1)) && decide (M i ≤ 1)) b.toNat
  constructor
  · intro h i i0 i1
    by_cases c1 : 1 < L i
    · exact Or.inl c1
    by_cases c2 : 1 < M i
    · exact Or.inr (Or.inl c2)
    refine Or.inr (Or.inr ?_)
    have hl := hL i i0 i1
    have hm := hM i i0 i1
    by_cases c3 : L i = M i
    · exact c3
    exfalso
    refine hz.mpr ⟨i, i0, by omega, ?_⟩ h
    show ((Bool.xor (decide (L i = 1)) (decide (M i = 1)) && decide (L i ≤ 1)) && decide (M i ≤ 1)) = true
    rw [decide_eq_true (show L i ≤ 1 by omega), decide_eq_true (show M i ≤ 1 by omega), Bool.and_true, Bool.and_true]
    by_cases c4 : L i = 1
    · rw [decide_eq_true c4, decide_eq_false (show ¬ M i = 1 by omega)]; rfl
    · rw [decide_eq_false c4, decide_eq_true (show M i = 1 by omega)]; rfl
  · intro h
    refine Classical.byContradiction (fun hn => ?_)
    obtain ⟨i, i0, i1, q⟩ := hz.mp hn
    have q : ((Bool.xor (decide (L i = 1)) (decide (M i = 1)) && decide (L i ≤ 1)) && decide (M i ≤ 1)) = true := q
    have h3 := h i i0 (by omega)
    simp only [Bool.and_eq_true, decide_eq_true_eq] at q
    have h4 : L i = M i := by omega
    have h5 := q.1.1
    rw [h4, Bool.xor_self] at h5
    cases h5
theorem zt_cb_or {L M : Int → Int} {b : Int} (hb : b ≤ 12) : zq_or (zt_mk (fun i => decide (L i = 1)) b) (zt_mk (fun i => decide (M i = 1)) b) = zt_cb L M b := zt_mk_or _ _ hb
theorem zt_cb_is {L M : Int → Int} {b : Int} (hb : b ≤ 12) (h0 : 0 ≤ b) (hL : ∀ i, 0 ≤ i → i < b → 0 ≤ L i) (h : zt_co L M b) : zt_is L b (zt_cb L M b) := fun i i0 i1 => by
  have q := h i i0 i1
  have hl := hL i i0 i1
  have e := zt_bi_mk (P := fun i => decide (L i = 1) || decide (M i = 1)) h0 hb i0 i1
  have hr := zt_mk_r (fun i => decide (L i = 1) || decide (M i = 1)) b
  have h2 := zx_p2_le (m := b) (n := 12) hb
  have e12 := zx_p2_12
  have hc := zt_bi_01 (b := b) (x := zt_cb L M b) (i := i) ⟨hr.1, by unfold zt_cb; omega⟩ i0 i1 hb
  have e : zt_bi b (zt_cb L M b) i = 1 ↔ (decide (L i = 1) || decide (M i = 1)) = true := e
  rw [Bool.or_eq_true, decide_eq_true_eq, decide_eq_true_eq] at e
  omega
