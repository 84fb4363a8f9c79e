/-! ===== the reference: how its rows change ===== -/
theorem zx_K_up {σ τ : zq_S} {i v : Int} (h : zx_K σ) (e : τ = zq_up σ 14 i v) (hv : v < zx_p2 (σ 0 2)) : zx_K τ := by
  intro p h1 h2
  have hb : τ 0 2 = σ 0 2 := by rw [e]; exact zq_up_ne (by omega)
  rw [hb]
  by_cases hc : p = i
  · rw [hc, e, zq_up_same]; exact hv
  · rw [e, zq_up_ne (by omega)]; exact h p h1 h2
theorem zx_M_0 {σ : zq_S} (h : σ 0 30 = 0) : zx_M σ := fun h1 => absurd h1 (by omega)
theorem zx_O_le {σ τ : zq_S} {v : Int} (h : zx_O σ) (e : τ = zq_up σ 0 3 v) (hv : v ≤ σ 0 3) : zx_O τ := by
  have ho : τ 0 3 = v := by rw [e, zq_up_same]
  intro o h1 h2
  have hx := h o h1 (by omega)
  exact ⟨zx_A_fr (fun i => by rw [e]; exact zq_up_ne (by omega)) (fun i => by rw [e]; exact zq_up_ne (by omega)) hx.1, zx_B_fr (fun i => by rw [e]; exact zq_up_ne (by omega)) (by rw [e]; exact zq_up_ne (by omega)) hx.2⟩
theorem zx_O_inc {σ τ : zq_S} {v : Int} (h : zx_O σ) (hA : zx_A σ (σ 0 3)) (hB : zx_B σ (σ 0 3)) (e : τ = zq_up σ 0 3 v) (hv : v = σ 0 3 + 1) : zx_O τ := by
  have ho : τ 0 3 = v := by rw [e, zq_up_same]
  intro o h1 h2
  have hx : zx_A σ o ∧ zx_B σ o := by
    by_cases hc : o = σ 0 3
    · rw [hc]; exact ⟨hA, hB⟩
    · exact h o h1 (by omega)
  exact ⟨zx_A_fr (fun i => by rw [e]; exact zq_up_ne (by omega)) (fun i => by rw [e]; exact zq_up_ne (by omega)) hx.1, zx_B_fr (fun i => by rw [e]; exact zq_up_ne (by omega)) (by rw [e]; exact zq_up_ne (by omega)) hx.2⟩
theorem zq_mul_b {x y : Int} (a b : Int) (hx : 0 ≤ x ∧ x ≤ a) (hy : 0 ≤ y ∧ y ≤ b) : 0 ≤ x * y ∧ x * y ≤ a * b := by
  refine ⟨Int.mul_nonneg hx.1 hy.1, ?_⟩
  exact Int.le_trans (Int.mul_le_mul_of_nonneg_right hx.2 hy.1) (Int.mul_le_mul_of_nonneg_left hy.2 (by omega))
theorem zx_p2_add {m n : Int} (hm : 0 ≤ m) (hn : 0 ≤ n) : zx_p2 (m + n) = zx_p2 m * zx_p2 n := by
  unfold zx_p2
  rw [show (m + n).toNat = m.toNat + n.toNat by omega, Int.pow_add]
theorem zx_blk {f r b : Int} (hd : zx_p2 r ∣ f) (hf : f < zx_p2 b) (h0 : 0 ≤ r) (hr : r ≤ b) : f + zx_p2 r ≤ zx_p2 b := by
  have e : zx_p2 b = zx_p2 r * zx_p2 (b - r) := by rw [← zx_p2_add h0 (by omega)]; congr 1; omega
  obtain ⟨q, rfl⟩ := hd
  rw [e] at hf ⊢
  have hp := zx_p2_pos r
  have hq : q < zx_p2 (b - r) := Int.lt_of_mul_lt_mul_left hf (by omega)
  have : zx_p2 r * (q + 1) ≤ zx_p2 r * zx_p2 (b - r) := Int.mul_le_mul_of_nonneg_left (by omega) (by omega)
  rw [Int.mul_add, Int.mul_one] at this
  exact this
