/-! ===== answers of the telling, side by side ===== -/
theorem zu_roomL {σ ρ : zq_S} {a c v u : Int} (hT : zc_T σ) (hx : zx_T ρ) (h : zu_T3 σ ρ) (e2 : σ 3 2 = ρ 0 2) (gp : zq_hid ((¬ (0 ≤ a ∧ a < σ 3 3 ∧ 0 ≤ c ∧ c < σ 3 3) → v = -1) ∧ (0 ≤ a ∧ a < σ 3 3 ∧ 0 ≤ c ∧ c < σ 3 3 → zu_rc σ (σ 10 a) (σ 10 c) v))) (kp : ¬ (0 ≤ a ∧ a < ρ 0 3 ∧ 0 ≤ c ∧ c < ρ 0 3) → u = -1) (kw : zq_hid (0 ≤ a ∧ a < ρ 0 3 ∧ 0 ≤ c ∧ c < ρ 0 3 → zt_rr ρ a c u)) : u = v := by
  have e := h.1.1
  have z3 := zx_g3 hx
  by_cases d : 0 ≤ a ∧ a < ρ 0 3 ∧ 0 ≤ c ∧ c < ρ 0 3
  · exact (zu_room hT hx h e2 (zc_ga10 hT zc_s10 a d.1 (by omega)) (zc_ga10 hT zc_s10 c d.2.2.1 (by omega)) (h.2.2.1 a d.1 d.2.1) (h.2.2.1 c d.2.2.1 d.2.2.2) (gp.2 (by omega)) (kw d)).symm
  · rw [gp.1 (by omega), kp d]
