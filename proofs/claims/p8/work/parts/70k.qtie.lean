/-! ===== answers of the telling, side by side ===== -/
theorem zu_own {σ ρ : zq_S} {x r : Int} (h : zu_T3 σ ρ) (x0 : 0 ≤ x) (x1 : x < zx_p2 (ρ 0 2)) (ho : zt_ow ρ x r) : (σ 11 x = -1 ∧ r = -4) ∨ (σ 11 x = r ∧ 0 ≤ r ∧ r < ρ 0 3) := by
  obtain ⟨-, -, -, a5, a6⟩ := h
  have bb := a6 x x0 x1
  by_cases c : σ 11 x < 0
  · refine Or.inl ⟨(bb.1 c).1, ?_⟩
    by_cases d : r < 0
    · exact (ho.1 d).1
    · obtain ⟨b1, b2, -⟩ := ho.2 (by omega)
      exact absurd b2 ((bb.1 c).2 r (by omega) b1)
  · obtain ⟨b1, b2⟩ := bb.2 (by omega)
    by_cases d : r < 0
    · exact absurd b2 ((ho.1 d).2 _ (by omega) b1)
    · obtain ⟨g1, g2, -⟩ := ho.2 (by omega)
      refine Or.inr ⟨?_, by omega, g1⟩
      by_cases e : σ 11 x = r
      · exact e
      · exfalso
        by_cases f : σ 11 x < r
        · exact a5 _ r (by omega) f g1 (zt_is_co b2 g2)
        · exact a5 r _ (by omega) (by omega) b1 (zt_is_co g2 b2)
theorem zu_lookL {σ ρ : zq_S} {x v u : Int} (h : zu_T3 σ ρ) (e2 : σ 3 2 = ρ 0 2) (gp : (¬ (0 ≤ x ∧ x < zx_p2 (σ 3 2)) → v = -1) ∧ (0 ≤ x ∧ x < zx_p2 (σ 3 2) → (σ 11 x < 0 → v = -4) ∧ (0 ≤ σ 11 x → v = σ 11 x))) (kp : ¬ (0 ≤ x ∧ x < zx_p2 (ρ 0 2)) → u = -1) (kw : zq_hid (0 ≤ x ∧ x < zx_p2 (ρ 0 2) → zt_ow ρ x u)) : u = v := by
  rw [e2] at gp
  by_cases c : 0 ≤ x ∧ x < zx_p2 (ρ 0 2)
  · obtain ⟨g1, g2⟩ := gp.2 c
    rcases zu_own h c.1 c.2 (kw c) with ⟨e, f⟩ | ⟨e, f, -⟩
    · rw [f, g1 (by omega)]
    · rw [g2 (by omega), e]
  · rw [gp.1 c, kp c]
