/-! ===== the reference: prices, and what is chosen ===== -/
def zx_Lt (σ : zq_S) : Prop := ∀ j, 0 ≤ j → j < σ 0 37 → σ 21 j = 2 → 0 ≤ σ 23 j ∧ σ 23 j < j ∧ 0 ≤ σ 24 j ∧ σ 24 j < j
theorem zx_Lt_of {σ : zq_S} {f : Int → Int} (h : zx_tree (σ 21) (σ 23) (σ 24) f (σ 0 37)) : zx_Lt σ := by
  intro j h0 h1 hk
  obtain ⟨-, -, h2, -⟩ := h j h0 h1
  obtain ⟨a1, a2, a3, a4, a5⟩ := h2 hk
  omega
def zx_P1 (σ : zq_S) (m j : Int) : Prop := 0 ≤ σ 31 j → σ 21 j ≠ 0 → (0 ≤ σ 32 j ∧ σ 32 j < σ 0 3) ∧ (¬ σ 21 j = 1 → 3 ≤ zx_form σ (σ 32 j) ∧ 0 ≤ σ 31 (σ 23 j) ∧ (zx_form σ (σ 32 j) = 3 ∨ zx_form σ (σ 32 j) = 5 → 0 ≤ σ 31 (σ 24 j)) ∧ (5 ≤ zx_form σ (σ 32 j) → σ 21 (σ 23 j) = 0 → 0 ≤ m))
def zx_PR (σ : zq_S) (m n : Int) : Prop := ∀ j, 0 ≤ j → j < n → zx_P1 σ m j
/-- only prices and choices have changed -/
def zx_ps (σ τ : zq_S) : Prop := ∀ a i, a ≠ 31 → a ≠ 32 → τ a i = σ a i
theorem zx_ps_form {σ τ : zq_S} (h : zx_ps σ τ) (o : Int) : zx_form τ o = zx_form σ o := zx_form_fr (fun i => h 2 i (by decide) (by decide)) (fun i => h 3 i (by decide) (by decide)) (fun i => h 5 i (by decide) (by decide)) (fun i => h 6 i (by decide) (by decide)) (h 0 2 (by decide) (by decide)) o
theorem zx_ps_lm {σ τ : zq_S} (h : zx_ps σ τ) (n : Int) : zx_lm τ n = zx_lm σ n := zx_lm_fr (fun i => h 2 i (by decide) (by decide)) (fun i => h 3 i (by decide) (by decide)) (fun i => h 5 i (by decide) (by decide)) (fun i => h 6 i (by decide) (by decide)) (fun i => h 7 i (by decide) (by decide)) (h 0 2 (by decide) (by decide)) n
theorem zx_Lt_fr {σ τ : zq_S} (h : zx_ps σ τ) (hL : zx_Lt σ) : zx_Lt τ := by
  intro j h0 h1 hk
  rw [h 0 37 (by decide) (by decide)] at h1
  rw [h 21 j (by decide) (by decide)] at hk
  rw [h 23 j (by decide) (by decide), h 24 j (by decide) (by decide)]
  exact hL j h0 h1 hk
theorem zx_P1_fr {σ τ : zq_S} {m j n : Int} (hT : zx_T σ) (hL : zx_Lt σ) (hj : 0 ≤ j ∧ j < n ∧ n < σ 0 37) (h : zx_ps σ τ) (h31 : ∀ i, i ≠ n → τ 31 i = σ 31 i) (h32 : ∀ i, i ≠ n → τ 32 i = σ 32 i) (hP : zx_P1 σ m j) : zx_P1 τ m j := by
  unfold zx_P1
  rw [h31 j (by omega), h32 j (by omega), h 21 j (by decide) (by decide), h 23 j (by decide) (by decide), h 24 j (by decide) (by decide), h 0 3 (by decide) (by decide), zx_ps_form h, h 21 _ (by decide) (by decide)]
  intro h1 h2
  obtain ⟨a1, a2⟩ := hP h1 h2
  refine ⟨a1, fun h3 => ?_⟩
  have hk := zx_ga21 hT j
  have hl := hL j hj.1 (by omega) (by omega)
  rw [h31 (σ 23 j) (by omega), h31 (σ 24 j) (by omega)]
  exact a2 h3
theorem zx_PR_w {σ τ : zq_S} {m n : Int} (hT : zx_T σ) (hL : zx_Lt σ) (hn : 0 ≤ n ∧ n < σ 0 37) (h : zx_ps σ τ) (h31 : ∀ i, i ≠ n → τ 31 i = σ 31 i) (h32 : ∀ i, i ≠ n → τ 32 i = σ 32 i) (hP : zx_PR σ m n) (hnew : zx_P1 τ m n) : zx_PR τ m (n + 1) := by
  intro j h0 h1
  by_cases hc : j = n
  · rw [hc]; exact hnew
  · exact zx_P1_fr hT hL ⟨h0, by omega, hn.2⟩ h h31 h32 (hP j h0 (by omega))
theorem zx_P1_new {σ τ : zq_S} {m n o : Int} (hT : zx_T σ) (hL : zx_Lt σ) (hn : 0 ≤ n ∧ n < σ 0 37) (h : zx_ps σ τ) (h31 : ∀ i, i ≠ n → τ 31 i = σ 31 i) (h32 : τ 32 n = o) (ho : 0 ≤ o ∧ o < σ 0 3) (hk : 0 < σ 21 n) (hcb : (σ 21 n = 1 → zx_form σ o = 1) ∧ (¬ σ 21 n = 1 → 3 ≤ zx_form σ o ∧ 0 ≤ σ 31 (σ 23 n) ∧ (zx_form σ o = 3 ∨ zx_form σ o = 5 → 0 ≤ σ 31 (σ 24 n)) ∧ (5 ≤ zx_form σ o → σ 21 (σ 23 n) = 0 → 0 ≤ m))) : zx_P1 τ m n := by
  intro _ _
  rw [h32, h 0 3 (by decide) (by decide), h 21 n (by decide) (by decide), h 23 n (by decide) (by decide), h 24 n (by decide) (by decide), zx_ps_form h, h 21 _ (by decide) (by decide)]
  refine ⟨ho, fun h3 => ?_⟩
  have hk := zx_ga21 hT n
  have hl := hL n hn.1 hn.2 (by omega)
  rw [h31 (σ 23 n) (by omega), h31 (σ 24 n) (by omega)]
  exact hcb.2 h3
/-- what findPrices leaves, if it finds one -/
def zx_FP (τ : zq_S) : Prop := (τ 21 (τ 0 37 - 1) = 0 → 0 ≤ τ 32 (τ 0 37 - 1) ∧ τ 32 (τ 0 37 - 1) < τ 0 3) ∧ (τ 21 (τ 0 37 - 1) ≠ 0 → 0 ≤ τ 31 (τ 0 37 - 1) ∧ zx_PR τ (zx_lm τ (τ 0 3)) (τ 0 37))
