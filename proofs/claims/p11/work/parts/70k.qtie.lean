/-! ===== answers of the telling, side by side ===== -/
theorem zu_hl {σ ρ : zq_S} {n : Int} (h : zu_T3 σ ρ) (n0 : 0 ≤ n) (n1 : n < zx_p2 (ρ 0 2)) : σ 11 n = -1 ↔ zt_hl ρ n := by
  have bb := h.2.2.2.2 n n0 n1
  constructor
  · intro w
    exact (bb.1 (by omega)).2
  · intro w
    by_cases d : σ 11 n < 0
    · exact (bb.1 d).1
    · obtain ⟨b1, b2⟩ := bb.2 (by omega)
      exact absurd b2 (w _ (by omega) b1)
theorem zu_first_u {h h' : Int → Prop} {a p r s : Int} (hh : ∀ y, a ≤ y → y < p → (h y ↔ h' y)) (h1 : zu_first h a p r) (h2 : zu_first h' a p s) : r = s := by
  by_cases c : 0 ≤ r
  · obtain ⟨a1, a2, a3, a4⟩ := h1.1 c
    by_cases d : 0 ≤ s
    · obtain ⟨b1, b2, b3, b4⟩ := h2.1 d
      have n1 : ¬ r < s := fun q => b4 r a1 q ((hh r a1 a2).mp a3)
      have n2 : ¬ s < r := fun q => a4 s b1 q ((hh s b1 b2).mpr b3)
      omega
    · exact absurd ((hh r a1 a2).mp a3) ((h2.2 (by omega)).2 r a1 a2)
  · obtain ⟨a1, a2⟩ := h1.2 (by omega)
    by_cases d : 0 ≤ s
    · obtain ⟨b1, b2, b3, b4⟩ := h2.1 d
      exact absurd ((hh s b1 b2).mpr b3) (a2 s b1 b2)
    · obtain ⟨b1, b2⟩ := h2.2 (by omega)
      omega
theorem zu_holeL {σ ρ : zq_S} {x v u : Int} (h : zu_T3 σ ρ) (e2 : σ 3 2 = ρ 0 2) (gp : (¬ (0 ≤ x ∧ x < zx_p2 (σ 3 2)) → v = -1) ∧ zq_hid (0 ≤ x ∧ x < zx_p2 (σ 3 2) → zu_first (fun y => σ 11 y = -1) x (zx_p2 (σ 3 2)) v)) (kp : ¬ (0 ≤ x ∧ x < zx_p2 (ρ 0 2)) → u = -1) (kw : zq_hid (0 ≤ x ∧ x < zx_p2 (ρ 0 2) → zu_first (zt_hl ρ) x (zx_p2 (ρ 0 2)) u)) : u = v := by
  rw [e2] at gp
  by_cases c : 0 ≤ x ∧ x < zx_p2 (ρ 0 2)
  · exact (zu_first_u (fun y y0 y1 => zu_hl h (by omega) y1) (gp.2 c) (kw c)).symm
  · rw [gp.1 c, kp c]
