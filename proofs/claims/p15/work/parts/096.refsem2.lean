/-! ===== the reference: how its rows change ===== -/
theorem zx_K_up {σ τ : zq_S} {i v : Int} (h : zx_K σ) (e : τ = zq_up σ 14 i v) (hv : v < zx_p2 (σ 0 2)) : zx_K τ := by
  intro p h1 h2
  have hb : τ 0 2 = σ 0 2 := by rw [e]; exact zq_up_ne (by omega)
  rw [hb]
  by_cases hc : p = i
  · rw [hc, e, zq_up_same]; exact hv
  · rw [e, zq_up_ne (by omega)]; exact h p h1 h2
theorem zx_M_0 {σ : zq_S} (h : σ 0 30 = 0) : zx_M σ := fun h1 => absurd h1 (by omega)
theorem zx_O_le {σ τ : zq_S} {v : Int} (h : zx_O σ) (e : τ = zq_up σ 0 3 v) (hv : v ≤ σ 0 3) : zx_O τ := by
  have ho : τ 0 3 = v := by rw [e, zq_up_same]
  intro o h1 h2
  have hx := h o h1 (by omega)
  exact ⟨zx_A_fr (fun i => by rw [e]; exact zq_up_ne (by omega)) (fun i => by rw [e]; exact zq_up_ne (by omega)) hx.1, zx_B_fr (fun i => by rw [e]; exact zq_up_ne (by omega)) (by rw [e]; exact zq_up_ne (by omega)) hx.2⟩
theorem zx_O_inc {σ τ : zq_S} {v : Int} (h : zx_O σ) (hA : zx_A σ (σ 0 3)) (hB : zx_B σ (σ 0 3)) (e : τ = zq_up σ 0 3 v) (hv : v = σ 0 3 + 1) : zx_O τ := by
  have ho : τ 0 3 = v := by rw [e, zq_up_same]
  intro o h1 h2
  have hx : zx_A σ o ∧ zx_B σ o := by
    by_cases hc : o = σ 0 3
    · rw [hc]; exact ⟨hA, hB⟩
    · exact h o h1 (by omega)
  exact ⟨zx_A_fr (fun i => by rw [e]; exact zq_up_ne (by omega)) (fun i => by rw [e]; exact zq_up_ne (by omega)) hx.1, zx_B_fr (fun i => by rw [e]; exact zq_up_ne (by omega)) (by rw [e]; exact zq_up_ne (by omega)) hx.2⟩
theorem zq_mul_b {x y : Int} (a b : Int) (hx : 0 ≤ x ∧ x ≤ a) (hy : 0 ≤ y ∧ y ≤ b) : 0 ≤ x * y ∧ x * y ≤ a * b := by
  refine ⟨Int.mul_nonneg hx.1 hy.1, ?_⟩
  exact Int.le_trans (Int.mul_le_mul_of_nonneg_right hx.2 hy.1) (Int.mul_le_mul_of_nonneg_left hy.2 (by omega))
theorem zx_p2_add {m n : Int} (hm : 0 ≤ m) (hn : 0 ≤ n) : zx_p2 (m + n) = zx_p2 m * zx_p2 n := by
  unfold zx_p2
  rw [show (m + n).toNat = m.toNat + n.toNat by omega, Int.pow_add]
theorem zx_blk {f r b : Int} (hd : zx_p2 r ∣ f) (hf : f < zx_p2 b) (h0 : 0 ≤ r) (hr : r ≤ b) : f + zx_p2 r ≤ zx_p2 b := by
  have e : zx_p2 b = zx_p2 r * zx_p2 (b - r) := by rw [← zx_p2_add h0 (by omega)]; congr 1; omega
  obtain ⟨q, rfl⟩ := hd
  rw [e] at hf ⊢
  have hp := zx_p2_pos r
  have hq : q < zx_p2 (b - r) := Int.lt_of_mul_lt_mul_left hf (by omega)
  have : zx_p2 r * (q + 1) ≤ zx_p2 r * zx_p2 (b - r) := Int.mul_le_mul_of_nonneg_left (by omega) (by omega)
  rw [Int.mul_add, Int.mul_one] at this
  exact this
theorem zx_cnt_row {σ τ : zq_S} {o f : Int} : ∀ {n : Int}, (∀ i, 12 * o ≤ i → i < 12 * o + n → τ 2 i = σ 2 i) → zx_cnt τ o f n = zx_cnt σ o f n := by
  intro n h
  unfold zx_cnt
  have key : ∀ k : Nat, (k : Int) ≤ n ∨ k = 0 → zx_cntN τ o f k = zx_cntN σ o f k := by
    intro k
    induction k with
    | zero => intro _; rfl
    | succ k ih =>
      intro hk
      have h1 : ((k + 1 : Nat) : Int) ≤ n := by
        rcases hk with hk | hk
        · exact hk
        · omega
      simp only [zx_cntN]
      rw [ih (Or.inl (by omega)), h (12 * o + k) (by omega) (by omega)]
  by_cases hn : 0 ≤ n
  · exact key n.toNat (Or.inl (by omega))
  · exact key n.toNat (Or.inr (by omega))
theorem zx_A_row {σ τ : zq_S} {o : Int} (hT : zx_T σ) (h5 : τ 5 o = σ 5 o) (h6 : ∀ i, 18 * o ≤ i → i < 18 * o + 18 → τ 6 i = σ 6 i) (h : zx_A σ o) : zx_A τ o := by
  intro n h1 h2
  have := zx_ga5 hT o
  rw [h6 _ (by omega) (by omega)]
  exact h n h1 (by omega)
theorem zx_B_row {σ τ : zq_S} {o : Int} (hT : zx_T σ) (hb : τ 0 2 = σ 0 2) (h2 : ∀ i, 12 * o ≤ i → i < 12 * o + 12 → τ 2 i = σ 2 i) (h : zx_B σ o) : zx_B τ o := by
  have := zx_g2 hT
  have hr : ∀ f, zx_cnt τ o f (τ 0 2) = zx_cnt σ o f (σ 0 2) := fun f => by
    rw [hb]
    exact zx_cnt_row (fun i h3 h4 => h2 i h3 (by omega))
  unfold zx_B
  rw [hr, hr, hr, hr]
  exact h
theorem zx_O_old {σ τ : zq_S} (hT : zx_T σ) (hb : τ 0 2 = σ 0 2) (ho : τ 0 3 = σ 0 3) (h2 : ∀ i, i < 12 * σ 0 3 → τ 2 i = σ 2 i) (h5 : ∀ i, i < σ 0 3 → τ 5 i = σ 5 i) (h6 : ∀ i, i < 18 * σ 0 3 → τ 6 i = σ 6 i) (h : zx_O σ) : zx_O τ := by
  intro o h1 h3
  have hx := h o h1 (by omega)
  exact ⟨zx_A_row hT (h5 o (by omega)) (fun i h7 h8 => h6 i (by omega)) hx.1, zx_B_row hT hb (fun i h7 h8 => h2 i (by omega)) hx.2⟩
/-! ===== the reference: which fields, which form, the cheapest move ===== -/
def zx_fmN (σ : zq_S) (o : Int) : Nat → Int
  | 0 => 0
  | n + 1 => zq_or (zx_fmN σ o n) (if 0 < zx_cnt σ o n (σ 0 2) then zq_shl 1 n else 0)
def zx_fm (σ : zq_S) (o n : Int) : Int := zx_fmN σ o n.toNat
theorem zx_fm_0 (σ : zq_S) (o : Int) : zx_fm σ o 0 = 0 := rfl
theorem zx_fm_s (σ : zq_S) (o n : Int) (h : 0 ≤ n) : (0 < zx_cnt σ o n (σ 0 2) → zx_fm σ o (n + 1) = zq_or (zx_fm σ o n) (zq_shl 1 n)) ∧ (¬ 0 < zx_cnt σ o n (σ 0 2) → zx_fm σ o (n + 1) = zq_or (zx_fm σ o n) 0) := by
  obtain ⟨k, rfl⟩ := Int.eq_ofNat_of_zero_le h
  have e : zx_fm σ o ((k : Int) + 1) = zq_or (zx_fmN σ o k) (if 0 < zx_cnt σ o k (σ 0 2) then zq_shl 1 k else 0) := rfl
  have e2 : zx_fm σ o (k : Int) = zx_fmN σ o k := rfl
  refine ⟨fun hc => ?_, fun hc => ?_⟩
  · rw [e, e2, if_pos hc]
  · rw [e, e2, if_neg hc]
def zx_form (σ : zq_S) (o : Int) : Int :=
  if 0 < σ 3 o then 0 else if ¬ σ 5 o = 1 then 0 else if ¬ σ 6 (18 * o) = 0 then 0 else
  if σ 6 (18 * o + 3) = 0 ∨ σ 6 (18 * o + 4) < 0 then
    (if σ 6 (18 * o + 1) = 3 ∧ zx_fm σ o 4 = 9 then 1 else if σ 6 (18 * o + 1) = 1 ∧ zx_fm σ o 4 = 3 then 2 else 0)
  else if σ 6 (18 * o + 1) = 1 then (if σ 6 (18 * o + 4) = 2 ∧ zx_fm σ o 4 = 7 then 3 else if σ 6 (18 * o + 4) = 3 ∧ zx_fm σ o 4 = 11 then 4 else 0)
  else if ¬ σ 6 (18 * o + 1) = 0 then 0
  else if σ 6 (18 * o + 4) = 1 ∧ zx_fm σ o 4 = 3 then 5 else if σ 6 (18 * o + 4) = 3 ∧ zx_fm σ o 4 = 9 then 6 else 0
def zx_lmN (σ : zq_S) : Nat → Int
  | 0 => -1
  | n + 1 => if zx_form σ n = 2 ∧ (zx_lmN σ n < 0 ∨ σ 7 n < σ 7 (zx_lmN σ n)) then n else zx_lmN σ n
def zx_lm (σ : zq_S) (n : Int) : Int := zx_lmN σ n.toNat
theorem zx_lm_0 (σ : zq_S) : zx_lm σ 0 = -1 := rfl
theorem zx_lm_s (σ : zq_S) (n : Int) (h : 0 ≤ n) : (zx_form σ n = 2 ∧ (zx_lm σ n < 0 ∨ σ 7 n < σ 7 (zx_lm σ n)) → zx_lm σ (n + 1) = n) ∧ (¬ (zx_form σ n = 2 ∧ (zx_lm σ n < 0 ∨ σ 7 n < σ 7 (zx_lm σ n))) → zx_lm σ (n + 1) = zx_lm σ n) := by
  obtain ⟨k, rfl⟩ := Int.eq_ofNat_of_zero_le h
  have e : zx_lm σ ((k : Int) + 1) = if zx_form σ k = 2 ∧ (zx_lmN σ k < 0 ∨ σ 7 k < σ 7 (zx_lmN σ k)) then (k : Int) else zx_lmN σ k := rfl
  have e2 : zx_lm σ (k : Int) = zx_lmN σ k := rfl
  refine ⟨fun hc => ?_, fun hc => ?_⟩
  · rw [e2] at hc; rw [e, if_pos hc]
  · rw [e2] at hc; rw [e, e2, if_neg hc]
theorem zx_fm_fr {σ τ : zq_S} (h2 : ∀ i, τ 2 i = σ 2 i) (hb : τ 0 2 = σ 0 2) (o n : Int) : zx_fm τ o n = zx_fm σ o n := by
  unfold zx_fm
  generalize n.toNat = k
  induction k with
  | zero => rfl
  | succ k ih => simp only [zx_fmN, ih, zx_cnt_fr h2, hb]
theorem zx_form_fr {σ τ : zq_S} (h2 : ∀ i, τ 2 i = σ 2 i) (h3 : ∀ i, τ 3 i = σ 3 i) (h5 : ∀ i, τ 5 i = σ 5 i) (h6 : ∀ i, τ 6 i = σ 6 i) (hb : τ 0 2 = σ 0 2) (o : Int) : zx_form τ o = zx_form σ o := by
  unfold zx_form
  simp only [h3, h5, h6, zx_fm_fr h2 hb]
theorem zx_lm_fr {σ τ : zq_S} (h2 : ∀ i, τ 2 i = σ 2 i) (h3 : ∀ i, τ 3 i = σ 3 i) (h5 : ∀ i, τ 5 i = σ 5 i) (h6 : ∀ i, τ 6 i = σ 6 i) (h7 : ∀ i, τ 7 i = σ 7 i) (hb : τ 0 2 = σ 0 2) (n : Int) : zx_lm τ n = zx_lm σ n := by
  unfold zx_lm
  generalize n.toNat = k
  induction k with
  | zero => rfl
  | succ k ih => simp only [zx_lmN, ih, zx_form_fr h2 h3 h5 h6 hb, h7]

