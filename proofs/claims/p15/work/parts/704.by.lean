/-! ===== bytes of a long ===== -/
/-- byte i of a long, the lowest first -/
def zu_by (w i : Int) : Int := zq_landL (zq_lshr w (8 * i)) 255
theorem zu_bv (x : BitVec 64) (k : Nat) (hk : k ≤ 56) : ((x >>> k).setWidth 32 &&& 255#32).toNat = (x.sshiftRight k &&& 255#64).toNat := by
  refine Nat.eq_of_testBit_eq (fun i => ?_)
  have ht : Nat.testBit 255 i = decide (i < 8) := Nat.testBit_two_pow_sub_one 8 i
  rw [BitVec.testBit_toNat, BitVec.testBit_toNat, BitVec.getLsbD_and, BitVec.getLsbD_and, BitVec.getLsbD_setWidth, BitVec.getLsbD_ushiftRight, BitVec.getLsbD_sshiftRight, BitVec.getLsbD_ofNat, BitVec.getLsbD_ofNat, ht]
  by_cases hi : i < 8
  · have h1 : k + i < 64 := by omega
    have h2 : i < 32 := by omega
    have h3 : i < 64 := by omega
    simp [hi, h1, h2, h3]
  · simp [hi]
theorem zu_bv_lt (x : BitVec 64) : (x &&& 255#64).toNat < 256 := by
  rw [BitVec.toNat_and]
  have : (x.toNat &&& (255#64).toNat) ≤ (255#64).toNat := Nat.and_le_right
  have e : (255#64).toNat = 255 := by decide
  omega
theorem zu_s1 : ∀ i : Fin 8, (((Int32.ofInt (8 * ((i.val : Nat) : Int))).toInt64 &&& 63).toBitVec.smod 64).toNat = 8 * i.val := by decide +kernel
theorem zu_s2 : ∀ i : Fin 8, (((Int32.ofInt (8 * ((i.val : Nat) : Int))).toInt64.toUInt64 &&& Int64.toUInt64 63).toBitVec % 64).toNat = 8 * i.val := by decide +kernel
theorem zu_toL {z : Int64} {n : Nat} (h : z.toBitVec.toNat = n) (hn : n < 256) : z.toInt = n := by
  show z.toBitVec.toInt = n
  rw [BitVec.toInt_eq_toNat_of_lt (by omega), h]
theorem zu_by_b {w i : Int} (h0 : 0 ≤ i) (h7 : i ≤ 7) : (zu_by w i = (((Int64.ofInt w).toBitVec.sshiftRight (8 * i.toNat) &&& 255#64).toNat : Int)) ∧ 0 ≤ zu_by w i ∧ zu_by w i ≤ 255 := by
  have hs := zu_s1 ⟨i.toNat, by omega⟩
  have hs : (((Int32.ofInt (8 * ((i.toNat : Nat) : Int))).toInt64 &&& 63).toBitVec.smod 64).toNat = 8 * i.toNat := hs
  rw [show ((i.toNat : Nat) : Int) = i by omega] at hs
  have h1 : (Int64.ofInt (zq_lshr w (8 * i)) &&& Int64.ofInt 255).toBitVec = (Int64.ofInt w).toBitVec.sshiftRight (8 * i.toNat) &&& 255#64 := by
    unfold zq_lshr
    rw [zq_ofL_to, Int64.toBitVec_and, Int64.toBitVec_shiftRight]
    show (Int64.ofInt w).toBitVec.sshiftRight (((Int32.ofInt (8 * i)).toInt64 &&& 63).toBitVec.smod 64).toNat &&& _ = _
    rw [hs]
    rfl
  have h2 := zu_bv_lt ((Int64.ofInt w).toBitVec.sshiftRight (8 * i.toNat))
  have h3 : zu_by w i = (((Int64.ofInt w).toBitVec.sshiftRight (8 * i.toNat) &&& 255#64).toNat : Int) := zu_toL (congrArg BitVec.toNat h1) h2
  exact ⟨h3, by omega, by omega⟩
theorem zu_by_r {w i : Int} (h0 : 0 ≤ i) (h7 : i ≤ 7) : 0 ≤ zu_by w i ∧ zu_by w i ≤ 255 := (zu_by_b h0 h7).2
theorem zu_by_c {w i : Int} (h0 : 0 ≤ i) (h7 : i ≤ 7) : zq_and (zq_l2i (zq_lushr w (8 * i))) 255 = zu_by w i := by
  have hs := zu_s2 ⟨i.toNat, by omega⟩
  have hs : (((Int32.ofInt (8 * ((i.toNat : Nat) : Int))).toInt64.toUInt64 &&& Int64.toUInt64 63).toBitVec % 64).toNat = 8 * i.toNat := hs
  rw [show ((i.toNat : Nat) : Int) = i by omega] at hs
  have h1 : (Int32.ofInt (zq_l2i (zq_lushr w (8 * i))) &&& Int32.ofInt 255).toBitVec = ((Int64.ofInt w).toBitVec >>> (8 * i.toNat)).setWidth 32 &&& 255#32 := by
    unfold zq_l2i zq_lushr
    rw [zq_ofI_to, zq_ofL_to, Int32.toBitVec_and]
    show ((Int64.ofInt w).toBitVec >>> (((Int32.ofInt (8 * i)).toInt64.toUInt64 &&& Int64.toUInt64 63).toBitVec % 64).toNat).signExtend 32 &&& _ = _
    rw [BitVec.signExtend_eq_setWidth_of_le _ (by decide), hs]
    rfl
  have h2 := zu_bv ((Int64.ofInt w).toBitVec) (8 * i.toNat) (by omega)
  have h3 := zu_bv_lt ((Int64.ofInt w).toBitVec.sshiftRight (8 * i.toNat))
  have h4 := (zu_by_b (w := w) h0 h7).1
  rw [h4, ← h2]
  exact zq_toInt (congrArg BitVec.toNat h1) (by omega)
theorem zu_l2i {x : Int} (h : 0 ≤ x ∧ x ≤ 255) : zq_l2i x = x := by
  unfold zq_l2i
  obtain ⟨n, rfl⟩ := Int.eq_ofNat_of_zero_le h.1
  have h1 : (Int64.ofInt (n : Int)).toInt32.toBitVec.toNat = n := by
    show ((BitVec.ofInt 64 (n : Int)).signExtend 32).toNat = n
    rw [BitVec.signExtend_eq_setWidth_of_le _ (by decide), BitVec.toNat_setWidth]
    have : (BitVec.ofInt 64 (n : Int)).toNat = n := by
      rw [BitVec.toNat_ofInt]
      omega
    rw [this]
    omega
  exact zq_toInt h1 (by omega)
/-- what type() does to a tape of l bytes -/
def zu_ok (w n : Int) : Prop := 1 ≤ n ∧ n ≤ 8 ∧ ∀ i, 0 ≤ i → i < n → 32 ≤ zu_by w i ∧ zu_by w i ≤ 126
def zu_ty (A A' : Int → Int) (l l' w n r : Int) : Prop :=
  (¬ zu_ok w n → r = -1 ∧ l' = l ∧ ∀ j, A' j = A j) ∧
  (zu_ok w n → (80 < l + n → r = -3 ∧ l' = l ∧ ∀ j, A' j = A j) ∧ (l + n ≤ 80 → r = l + n ∧ l' = l + n ∧ ∀ j, A' j = if l ≤ j ∧ j < l + n then zu_by w (n - 1 - (j - l)) else A j))
theorem zu_ty_u {A A' B' : Int → Int} {l l' m' w n r s : Int} (h : zu_ty A A' l l' w n r) (k : zu_ty A B' l m' w n s) : r = s ∧ l' = m' ∧ ∀ j, A' j = B' j := by
  by_cases c : zu_ok w n
  · by_cases d : 80 < l + n
    · obtain ⟨a1, a2, a3⟩ := (h.2 c).1 d
      obtain ⟨b1, b2, b3⟩ := (k.2 c).1 d
      exact ⟨by omega, by omega, fun j => by rw [a3, b3]⟩
    · obtain ⟨a1, a2, a3⟩ := (h.2 c).2 (by omega)
      obtain ⟨b1, b2, b3⟩ := (k.2 c).2 (by omega)
      exact ⟨by omega, by omega, fun j => by rw [a3, b3]⟩
  · obtain ⟨a1, a2, a3⟩ := h.1 c
    obtain ⟨b1, b2, b3⟩ := k.1 c
    exact ⟨by omega, by omega, fun j => by rw [a3, b3]⟩
