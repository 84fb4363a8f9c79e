/-! ===== what class and reference hold alike between two calls ===== -/
def zt (σ ρ : zq_S) : Prop := (σ 3 0 = ρ 0 0 ∧ σ 3 1 = ρ 0 1 ∧ σ 3 2 = ρ 0 2 ∧ σ 140 12 = ρ 0 29 ∧ σ 255 4 = ρ 0 35) ∧ ∀ i : Int, 0 ≤ i → i ≤ 3 → σ 277 i = ρ 38 i ∧ σ 278 i = ρ 39 i
theorem zt_fr {σ ρ σ1 ρ1 : zq_S} (h : zt σ ρ) (c1 : σ1 3 0 = σ 3 0) (c2 : σ1 3 1 = σ 3 1) (c3 : σ1 3 2 = σ 3 2) (c4 : σ1 140 12 = σ 140 12) (c5 : σ1 255 4 = σ 255 4) (c6 : ∀ i, σ1 277 i = σ 277 i) (c7 : ∀ i, σ1 278 i = σ 278 i) (r1 : ρ1 0 0 = ρ 0 0) (r2 : ρ1 0 1 = ρ 0 1) (r3 : ρ1 0 2 = ρ 0 2) (r4 : ρ1 0 29 = ρ 0 29) (r5 : ρ1 0 35 = ρ 0 35) (r6 : ∀ i, ρ1 38 i = ρ 38 i) (r7 : ∀ i, ρ1 39 i = ρ 39 i) : zt σ1 ρ1 := by
  unfold zt
  rw [c1, c2, c3, c4, c5, r1, r2, r3, r4, r5]
  exact ⟨h.1, fun i h0 h3 => by rw [c6, c7, r6, r7]; exact h.2 i h0 h3⟩

