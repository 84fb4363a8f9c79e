/-! ===== they begin alike ===== -/
theorem zu_start {σ ρ : zq_S} (h : zu_C1 σ) (k : zu_R1 ρ) : zt σ ρ ∧ zu_T2 σ ρ ∧ zu_T3 σ ρ := by
  obtain ⟨σ0, HI, hF, ⟨c0, c1, c2, c3, c4, c5, c6, -, -, -, -, -, -, -, -, -, -, -⟩, h11, -, -, -, -⟩ := h
  obtain ⟨⟨r0, r1, r2, r14, r3, r18, r29, r35, -, -, -⟩, -, hl, hz⟩ := k
  refine ⟨⟨⟨by omega, by omega, by omega, by omega, by omega⟩, fun i h0 h3 => ⟨?_, ?_⟩⟩, ⟨?_, fun i => ?_⟩, ?_⟩
  · rw [hF 277 i (zc_out_ar zc_s277 rfl), HI 277 i (by decide) (by decide), zc_Ie277 zc_s277, hl i h0 (by omega)]
    unfold zc_I277
    rw [if_pos (by omega)]
  · rw [hF 278 i (zc_out_ar zc_s278 rfl), HI 278 i (by decide) (by decide), zc_Ie278 zc_s278, hz 39 i (by decide) (by decide) (by decide) (by decide)]
    rfl
  · rw [hF 1 1 (zc_out_at zc_s1 rfl), HI 1 1 (by decide) (by decide), zc_Ie1 zc_s1, r14]
    rfl
  · rw [hF 2 i (zc_out_ar zc_s2 rfl), HI 2 i (by decide) (by decide), zc_Ie2 zc_s2, hz 10 i (by decide) (by decide) (by decide) (by decide)]
    rfl
  · have e10 : ∀ i, 0 ≤ i → i < 20 → σ 10 i = 12 + 6 * i := fun i i0 i1 => by
      rw [hF 10 i (zc_out_ar zc_s10 rfl), HI 10 i (by decide) (by decide), zc_Ie10 zc_s10]
      unfold zc_I10
      rw [if_pos ⟨i0, i1⟩]
    have e35 : σ 3 5 = 4 := by
      rw [hF 3 5 (zc_out_at zc_s3 rfl), HI 3 5 (by decide) (by decide), zc_Ie3 zc_s3]
      rfl
    refine zu_T3_0 (σ := σ) (fun i i0 i1 => ?_) (fun _ => rfl) rfl c3 c4 r3 r18 h11 (by omega)
    have q := e10 i i0 i1
    refine ⟨by omega, fun j j0 j1 e => ?_⟩
    have q2 := e10 j j0 j1
    omega
theorem zu_cfk {σ τ : zq_S} {a : Int} (e1 : ∀ i, τ (a + 1) i = σ (a + 1) i) (e2 : ∀ i, τ (a + 2) i = σ (a + 2) i) (e3 : ∀ i, τ (a + 3) i = σ (a + 3) i) (e4 : ∀ i, τ (a + 4) i = σ (a + 4) i) (e5 : ∀ i, τ (a + 5) i = σ (a + 5) i) : ∀ k i, 1 ≤ k → k ≤ 5 → τ (a + k) i = σ (a + k) i := fun k i k1 k5 => by
  have hk : k = 1 ∨ k = 2 ∨ k = 3 ∨ k = 4 ∨ k = 5 := by omega
  rcases hk with rfl | rfl | rfl | rfl | rfl
  · exact e1 i
  · exact e2 i
  · exact e3 i
  · exact e4 i
  · exact e5 i
