/-! ===== the reference: what its rows say ===== -/
/-- how many of the first n places of order o's look are of field f -/
def zx_cntN (σ : zq_S) (o f : Int) : Nat → Int
  | 0 => 0
  | n + 1 => zx_cntN σ o f n + (if σ 2 (12 * o + n) = 2 + f then 1 else 0)
def zx_cnt (σ : zq_S) (o f n : Int) : Int := zx_cntN σ o f n.toNat
theorem zx_cnt_0 (σ : zq_S) (o f : Int) : zx_cnt σ o f 0 = 0 := rfl
theorem zx_cnt_s (σ : zq_S) (o f n : Int) (h : 0 ≤ n) : (σ 2 (12 * o + n) = 2 + f → zx_cnt σ o f (n + 1) = zx_cnt σ o f n + 1) ∧ (¬ σ 2 (12 * o + n) = 2 + f → zx_cnt σ o f (n + 1) = zx_cnt σ o f n) := by
  obtain ⟨k, rfl⟩ := Int.eq_ofNat_of_zero_le h
  have e : zx_cnt σ o f ((k : Int) + 1) = zx_cntN σ o f k + (if σ 2 (12 * o + k) = 2 + f then 1 else 0) := rfl
  have e2 : zx_cnt σ o f (k : Int) = zx_cntN σ o f k := rfl
  refine ⟨fun hc => ?_, fun hc => ?_⟩
  · rw [e, e2, if_pos hc]
  · rw [e, e2, if_neg hc]; omega
theorem zx_cnt_b (σ : zq_S) (o f n : Int) (h : 0 ≤ n) : 0 ≤ zx_cnt σ o f n ∧ zx_cnt σ o f n ≤ n := by
  obtain ⟨k, rfl⟩ := Int.eq_ofNat_of_zero_le h
  induction k with
  | zero => exact ⟨Int.le_refl _, Int.le_refl _⟩
  | succ k ih =>
    have h1 := ih (by omega)
    have h2 := zx_cnt_s σ o f (k : Int) (by omega)
    have e : ((k + 1 : Nat) : Int) = (k : Int) + 1 := by omega
    rw [e]
    by_cases hc : σ 2 (12 * o + k) = 2 + f
    · have := h2.1 hc; omega
    · have := h2.2 hc; omega
theorem zx_cnt_mono (σ : zq_S) (o f n : Int) (h : 0 ≤ n) : zx_cnt σ o f n ≤ zx_cnt σ o f (n + 1) := by
  have h2 := zx_cnt_s σ o f n h
  by_cases hc : σ 2 (12 * o + n) = 2 + f
  · have := h2.1 hc; omega
  · have := h2.2 hc; omega
/-- powers of two at whole numbers -/
def zx_p2 (n : Int) : Int := 2 ^ n.toNat
theorem zx_p2_s (n : Int) (h : 0 ≤ n) : zx_p2 (n + 1) = 2 * zx_p2 n := by
  unfold zx_p2
  rw [show (n + 1).toNat = n.toNat + 1 by omega, Int.pow_succ]
  omega
theorem zx_p2_0 : zx_p2 0 = 1 := rfl
theorem zx_p2_le {m n : Int} (h : m ≤ n) : zx_p2 m ≤ zx_p2 n := zq_pow2 (by omega)
theorem zx_p2_pos (n : Int) : 1 ≤ zx_p2 n := by
  have : (0 : Int) < 2 ^ n.toNat := Int.pow_pos (by decide)
  exact this
theorem zx_shl_one {y : Int} (u : Nat) (M : Int) (hu : u ≤ 30) (hM : M = 2 ^ u) (hy : 0 ≤ y ∧ y ≤ u) : zq_shl 1 y = zx_p2 y ∧ 1 ≤ zq_shl 1 y ∧ zq_shl 1 y ≤ M := zq_shl_one u M hu hM hy
theorem zx_nk {a : Int} (h : a = 11 ∨ a = 12) : zx_w.2 (zx_w.1 a) = .inl (0, 9) := by
  rcases h with rfl | rfl <;> rfl
theorem zx_gan {a : Int} (h : a = 11 ∨ a = 12) {σ : zq_S} (hT : zx_T σ) (i : Int) : 0 ≤ σ a i ∧ σ a i ≤ 3 := by
  rcases h with rfl | rfl
  · exact zx_ga11 hT i
  · exact zx_ga12 hT i
theorem zx_uan {a : Int} (h : a = 11 ∨ a = 12) {σ τ : zq_S} {i v : Int} (e : τ = zq_up σ a i v) (hT : zx_T σ) (hv : 0 ≤ v ∧ v ≤ 3) : zx_T τ := by
  rcases h with rfl | rfl
  · exact zx_ua11 e hT hv
  · exact zx_ua12 e hT hv
