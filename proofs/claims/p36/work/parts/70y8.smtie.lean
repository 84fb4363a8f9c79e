/-! ===== sums: the tie ===== -/
def zs_rt (ρ : zq_S) : zq_S := fun a i => ρ (a - 4) i
/-- the sum that was read last -/
def zu_T6 (σ ρ : zq_S) : Prop := σ 255 3 = ρ 0 36 ∧ (ρ 0 36 = 1 → σ (σ 255 1) 5 = ρ 0 37 ∧ ∀ i, 0 ≤ i → i < ρ 0 37 → zs_nd σ (σ 255 1) (zs_rt ρ) i)
theorem zs_rt_25 (ρ : zq_S) (i : Int) : zs_rt ρ 25 i = ρ 21 i := by
  show ρ (25 - 4) i = ρ 21 i
  rw [show (25 : Int) - 4 = 21 by omega]
theorem zs_rt_26 (ρ : zq_S) (i : Int) : zs_rt ρ 26 i = ρ 22 i := by
  show ρ (26 - 4) i = ρ 22 i
  rw [show (26 : Int) - 4 = 22 by omega]
theorem zs_rt_27 (ρ : zq_S) (i : Int) : zs_rt ρ 27 i = ρ 23 i := by
  show ρ (27 - 4) i = ρ 23 i
  rw [show (27 : Int) - 4 = 23 by omega]
theorem zs_rt_28 (ρ : zq_S) (i : Int) : zs_rt ρ 28 i = ρ 24 i := by
  show ρ (28 - 4) i = ρ 24 i
  rw [show (28 : Int) - 4 = 24 by omega]
theorem zu_T6_fr {σ τ ρ π : zq_S} (c3 : τ 255 3 = σ 255 3) (c1 : τ 255 1 = σ 255 1) (cs : zs_sm σ τ (σ 255 1)) (r36 : π 0 36 = ρ 0 36) (r37 : π 0 37 = ρ 0 37) (ra : ∀ a i, 21 ≤ a → a ≤ 24 → π a i = ρ a i) (h : zu_T6 σ ρ) : zu_T6 τ π := by
  refine ⟨by rw [c3, r36]; exact h.1, fun q => ?_⟩
  rw [r36] at q
  obtain ⟨h1, h2⟩ := h.2 q
  rw [c1]
  refine ⟨by rw [cs.1, r37]; exact h1, fun i i0 i1 => ?_⟩
  rw [r37] at i1
  exact zs_nd_fr cs (fun a a0 a1 => ra (a - 4) i (by omega) (by omega)) (h2 i i0 i1)
theorem zu_sumL {σ τ ρ π : zq_S} {v u : Int} (h2 : zu_T2 σ ρ) (e4 : σ 255 4 = ρ 0 35) (e0 : σ 3 0 = ρ 0 0) (gw : zs_S (σ 2) (σ 1 1) (σ 255 4) (zx_p2 (σ 3 0) - 1) v σ τ) (kw : zs_Sr (ρ 10) (ρ 0 14) (ρ 0 35) (zx_p2 (ρ 0 0) - 1) u ρ π) : u = v ∧ (zu_T6 σ ρ → zu_T6 τ π) := by
  have et : σ 2 = ρ 10 := funext h2.2
  rw [et, h2.1, e4, e0] at gw
  have g := gw ρ
  by_cases c : (zs_run (ρ 10) (ρ 0 14) (ρ 0 35) (zx_p2 (ρ 0 0) - 1) 100 0 0 0 (zs_0 ρ)).1 = 1
  · obtain ⟨g1, g2, g3, g4⟩ := g.1 c
    obtain ⟨k1, k2, k3, k4⟩ := kw.1 c
    refine ⟨by rw [k1, g1], fun _ => ⟨by rw [g2, k2], fun _ => ⟨by rw [g3, k3], fun i i0 i1 => ?_⟩⟩⟩
    rw [k3] at i1
    obtain ⟨y1, y2, y3, y4⟩ := k4 i i0 i1
    refine zs_nd_fr (zs_sm_rf _ _) (fun a a0 a1 => ?_) (g4 i i0 i1)
    rcases (show a = 25 ∨ a = 26 ∨ a = 27 ∨ a = 28 by omega) with e | e | e | e
    · rw [e, zs_rt_25, y1]
    · rw [e, zs_rt_26, y2]
    · rw [e, zs_rt_27, y3]
    · rw [e, zs_rt_28, y4]
  · obtain ⟨g1, g2, g3, g4⟩ := g.2 c
    obtain ⟨k1, k2, k3, k4⟩ := kw.2 c
    exact ⟨by rw [k1, g1], fun h => zu_T6_fr g2 g3 g4 k2 k3 k4 h⟩
