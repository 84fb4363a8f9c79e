/-! ===== the reference: what its rows say ===== -/
/-- how many of the first n places of order o's look are of field f -/
def zx_cntN (σ : zq_S) (o f : Int) : Nat → Int
  | 0 => 0
  | n + 1 => zx_cntN σ o f n + (if σ 2 (12 * o + n) = 2 + f then 1 else 0)
def zx_cnt (σ : zq_S) (o f n : Int) : Int := zx_cntN σ o f n.toNat
theorem zx_cnt_0 (σ : zq_S) (o f : Int) : zx_cnt σ o f 0 = 0 := rfl
theorem zx_cnt_s (σ : zq_S) (o f n : Int) (h : 0 ≤ n) : (σ 2 (12 * o + n) = 2 + f → zx_cnt σ o f (n + 1) = zx_cnt σ o f n + 1) ∧ (¬ σ 2 (12 * o + n) = 2 + f → zx_cnt σ o f (n + 1) = zx_cnt σ o f n) := by
  obtain ⟨k, rfl⟩ := Int.eq_ofNat_of_zero_le h
  have e : zx_cnt σ o f ((k : Int) + 1) = zx_cntN σ o f k + (if σ 2 (12 * o + k) = 2 + f then 1 else 0) := rfl
  have e2 : zx_cnt σ o f (k : Int) = zx_cntN σ o f k := rfl
  refine ⟨fun hc => ?_, fun hc => ?_⟩
  · rw [e, e2, if_pos hc]
  · rw [e, e2, if_neg hc]; omega
theorem zx_cnt_b (σ : zq_S) (o f n : Int) (h : 0 ≤ n) : 0 ≤ zx_cnt σ o f n ∧ zx_cnt σ o f n ≤ n := by
  obtain ⟨k, rfl⟩ := Int.eq_ofNat_of_zero_le h
  induction k with
  | zero => exact ⟨Int.le_refl _, Int.le_refl _⟩
  | succ k ih =>
    have h1 := ih (by omega)
    have h2 := zx_cnt_s σ o f (k : Int) (by omega)
    have e : ((k + 1 : Nat) : Int) = (k : Int) + 1 := by omega
    rw [e]
    by_cases hc : σ 2 (12 * o + k) = 2 + f
    · have := h2.1 hc; omega
    · have := h2.2 hc; omega
/-- powers of two at whole numbers -/
def zx_p2 (n : Int) : Int := 2 ^ n.toNat
theorem zx_p2_s (n : Int) (h : 0 ≤ n) : zx_p2 (n + 1) = 2 * zx_p2 n := by
  unfold zx_p2
  rw [show (n + 1).toNat = n.toNat + 1 by omega, Int.pow_succ]
  omega
theorem zx_p2_0 : zx_p2 0 = 1 := rfl
theorem zx_p2_le {m n : Int} (h : m ≤ n) : zx_p2 m ≤ zx_p2 n := zq_pow2 (by omega)
theorem zx_p2_pos (n : Int) : 1 ≤ zx_p2 n := by
  have : (0 : Int) < 2 ^ n.toNat := Int.pow_pos (by decide)
  exact this
theorem zx_shl_one {y : Int} (u : Nat) (M : Int) (hu : u ≤ 30) (hM : M = 2 ^ u) (hy : 0 ≤ y ∧ y ≤ u) : zq_shl 1 y = zx_p2 y ∧ 1 ≤ zq_shl 1 y ∧ zq_shl 1 y ≤ M := zq_shl_one u M hu hM hy
theorem zx_nk {a : Int} (h : a = 11 ∨ a = 12) : zx_w.2 (zx_w.1 a) = .inl (0, 9) := by
  rcases h with rfl | rfl <;> rfl
theorem zx_gan {a : Int} (h : a = 11 ∨ a = 12) {σ : zq_S} (hT : zx_T σ) (i : Int) : 0 ≤ σ a i ∧ σ a i ≤ 3 := by
  rcases h with rfl | rfl
  · exact zx_ga11 hT i
  · exact zx_ga12 hT i
theorem zx_uan {a : Int} (h : a = 11 ∨ a = 12) {σ τ : zq_S} {i v : Int} (e : τ = zq_up σ a i v) (hT : zx_T σ) (hv : 0 ≤ v ∧ v ≤ 3) : zx_T τ := by
  rcases h with rfl | rfl
  · exact zx_ua11 e hT hv
  · exact zx_ua12 e hT hv
theorem zx_p2_12 : zx_p2 12 = 4096 := rfl
theorem zx_p2_3 : zx_p2 3 = 8 := rfl
theorem zx_p2_8 : zx_p2 8 = 256 := rfl
/-- looks alike, counts alike -/
theorem zx_cnt_fr {σ τ : zq_S} (h : ∀ i, τ 2 i = σ 2 i) (o f n : Int) : zx_cnt τ o f n = zx_cnt σ o f n := by
  unfold zx_cnt
  generalize n.toNat = k
  induction k with
  | zero => rfl
  | succ k ih => simp only [zx_cntN, ih, h]
/-- an order's operands behind its signs are there -/
def zx_A (σ : zq_S) (o : Int) : Prop := ∀ n, 0 ≤ n → n < σ 5 o → 0 ≤ σ 6 (18 * o + 6 * n + 4)
/-- an order's fields have few bits -/
def zx_B (σ : zq_S) (o : Int) : Prop := zx_cnt σ o 0 (σ 0 2) ≤ 3 ∧ zx_cnt σ o 1 (σ 0 2) ≤ 3 ∧ zx_cnt σ o 2 (σ 0 2) ≤ 3 ∧ zx_cnt σ o 3 (σ 0 2) ≤ 8
/-- the map of bits to orders, where it is there -/
def zx_M (σ : zq_S) : Prop := σ 0 30 = 1 → ∀ n, 0 ≤ n → n < zx_p2 (σ 0 2) → σ 18 n < σ 0 3
def zx_O (σ : zq_S) : Prop := ∀ o, 0 ≤ o → o < σ 0 3 → zx_A σ o ∧ zx_B σ o
/-- the code's bits are bits -/
def zx_K (σ : zq_S) : Prop := ∀ p, 0 ≤ p → p < 64 → σ 14 p < zx_p2 (σ 0 2)
theorem zx_A_fr {σ τ : zq_S} (h5 : ∀ i, τ 5 i = σ 5 i) (h6 : ∀ i, τ 6 i = σ 6 i) {o : Int} (h : zx_A σ o) : zx_A τ o := fun n h1 h2 => by
  rw [h6]
  exact h n h1 (by rw [← h5]; exact h2)
theorem zx_B_fr {σ τ : zq_S} (h2 : ∀ i, τ 2 i = σ 2 i) (hb : τ 0 2 = σ 0 2) {o : Int} (h : zx_B σ o) : zx_B τ o := by
  unfold zx_B
  rw [zx_cnt_fr h2, zx_cnt_fr h2, zx_cnt_fr h2, zx_cnt_fr h2, hb]
  exact h
theorem zx_O_fr {σ τ : zq_S} (h2 : ∀ i, τ 2 i = σ 2 i) (h5 : ∀ i, τ 5 i = σ 5 i) (h6 : ∀ i, τ 6 i = σ 6 i) (hb : τ 0 2 = σ 0 2) (ho : τ 0 3 = σ 0 3) (h : zx_O σ) : zx_O τ := fun o h1 h3 =>
  ⟨zx_A_fr h5 h6 (h o h1 (by rw [← ho]; exact h3)).1, zx_B_fr h2 hb (h o h1 (by rw [← ho]; exact h3)).2⟩
theorem zx_K_fr {σ τ : zq_S} (h14 : ∀ i, τ 14 i = σ 14 i) (hb : τ 0 2 = σ 0 2) (h : zx_K σ) : zx_K τ := fun p h1 h2 => by
  rw [h14, hb]
  exact h p h1 h2
theorem zx_M_fr {σ τ : zq_S} (h18 : ∀ i, τ 18 i = σ 18 i) (hm : τ 0 30 = σ 0 30) (hb : τ 0 2 = σ 0 2) (ho : τ 0 3 = σ 0 3) (h : zx_M σ) : zx_M τ := fun h0 n h1 h2 => by
  rw [h18, ho]
  exact h (by rw [← hm]; exact h0) n h1 (by rw [← hb]; exact h2)
/-- a field's number is small -/
theorem zx_fld {σ : zq_S} {o f r : Int} (hB : zx_B σ o) (hf : 0 ≤ f ∧ f ≤ 3) (hr : r < zx_p2 (zx_cnt σ o f (σ 0 2))) : (f ≤ 2 → r ≤ 7) ∧ r ≤ 255 := by
  obtain ⟨b0, b1, b2, b3⟩ := hB
  have h3 := zx_p2_3
  have h8 := zx_p2_8
  rcases (show f = 0 ∨ f = 1 ∨ f = 2 ∨ f = 3 by omega) with rfl | rfl | rfl | rfl
  · have := zx_p2_le b0; omega
  · have := zx_p2_le b1; omega
  · have := zx_p2_le b2; omega
  · have := zx_p2_le b3; omega
theorem zx_ac0 {σ : zq_S} (h : zx_T σ) (i : Int) (hi : i % 6 = 0) : 0 ≤ σ 6 i ∧ σ 6 i ≤ 9 ∧ σ 6 i ≠ 3 := (zx_ga6 h i).1 hi
theorem zx_ac1 {σ : zq_S} (h : zx_T σ) (i : Int) (hi : i % 6 = 1) : 0 ≤ σ 6 i ∧ σ 6 i ≤ 10 := (zx_ga6 h i).2.1 hi
theorem zx_ac3 {σ : zq_S} (h : zx_T σ) (i : Int) (hi : i % 6 = 3) : 0 ≤ σ 6 i ∧ σ 6 i ≤ 6 := (zx_ga6 h i).2.2.1 hi
theorem zx_ac4 {σ : zq_S} (h : zx_T σ) (i : Int) (hi : i % 6 = 4) : -1 ≤ σ 6 i ∧ σ 6 i ≤ 10 := (zx_ga6 h i).2.2.2.1 hi
theorem zx_ac {σ : zq_S} (h : zx_T σ) (i : Int) : zq_in (σ 6 i) := (zx_ga6 h i).2.2.2.2
theorem zx_st {σ : zq_S} (h : zx_T σ) (i : Int) : zq_in (σ 15 i) := (zx_ga15 h i).2.2.2
theorem zx_stW {σ : zq_S} (h : zx_T σ) (i : Int) (hi : i ≤ 263) : 0 ≤ σ 15 i ∧ σ 15 i ≤ 255 := (zx_ga15 h i).1 hi
theorem zx_stZ {σ : zq_S} (h : zx_T σ) : 0 ≤ σ 15 264 ∧ σ 15 264 ≤ 1 := (zx_ga15 h 264).2.1 rfl
theorem zx_stP {σ : zq_S} (h : zx_T σ) : 0 ≤ σ 15 265 ∧ σ 15 265 ≤ 63 := (zx_ga15 h 265).2.2.1 rfl
/-- what omega is not to see -/
def zq_hid (P : Prop) : Prop := P

