/-! ===== answers of the telling, side by side ===== -/
theorem zu_flfm {σ ρ : zq_S} {a o : Int} (hx : zx_T ρ) (h : zu_lk σ ρ a o) : zu_fl (σ (a + 1)) 4 = zx_fm ρ o 4 := by
  have key : ∀ k : Nat, k ≤ 4 → zu_flF (σ (a + 1)) k = zx_fmN ρ o k := by
    intro k
    induction k with
    | zero => intro _; rfl
    | succ k ih =>
      intro hk
      have b := zu_bc hx h (f := (k : Int)) (by omega) (by omega)
      show zq_or (zu_flF (σ (a + 1)) k) (if σ (a + 1) k ≠ 0 then zq_shl 1 k else 0) = zq_or (zx_fmN ρ o k) (if 0 < zx_cnt ρ o k (ρ 0 2) then zq_shl 1 k else 0)
      rw [ih (by omega)]
      by_cases c : 0 < zx_cnt ρ o k (ρ 0 2)
      · rw [if_pos c, if_pos (fun q => by have := b.2.1.mp q; omega)]
      · rw [if_neg c, if_neg (fun q => q (b.2.1.mpr (by omega)))]
  exact key 4 (by decide)
theorem zu_about {σ ρ : zq_S} {a o w r s : Int} (hx : zx_T ρ) (h : zu_or σ ρ a o) (h1 : zu_ab σ a w r) (h2 : zu_abr ρ o w s) : r = s := by
  obtain ⟨p0, p1, p2, p3, p4, p5, p6⟩ := h1
  obtain ⟨q0, q1, q2, q3, q4, q5, q6⟩ := h2
  obtain ⟨g1, g2, g3, g4⟩ := h.2.2.1.1
  by_cases c0 : w = 0
  · rw [p0 c0, q0 c0]; exact g4
  by_cases c1 : w = 1
  · rw [p1 c1, q1 c1]; exact g3
  by_cases c2 : w = 2
  · rw [p2 c2, q2 c2]; exact g1
  by_cases c3 : w = 3
  · rw [p3 c3, q3 c3]; exact zu_flfm hx h.2.1
  by_cases c4 : w = 4
  · rw [p4 c4, q4 c4]; exact (zu_bc hx h.2.1 (by decide) (by decide)).1
  by_cases c5 : w = 5
  · rw [p5 c5, q5 c5]; exact h.2.1.2.1
  rw [p6 (by omega), q6 (by omega)]
theorem zu_aboutL {σ ρ : zq_S} {o w v u : Int} (hx : zx_T ρ) (h : zu_T3 σ ρ) (gp : zq_hid ((¬ (0 ≤ o ∧ o < σ 3 3) → v = -1) ∧ (0 ≤ o ∧ o < σ 3 3 → zu_ab σ (σ 10 o) w v))) (kp : zq_hid ((¬ (0 ≤ o ∧ o < ρ 0 3) → u = -1) ∧ (0 ≤ o ∧ o < ρ 0 3 → zu_abr ρ o w u))) : u = v := by
  have e := h.1.1
  by_cases c : 0 ≤ o ∧ o < ρ 0 3
  · exact (zu_about hx (h.2.2.1 o c.1 c.2) (gp.2 (by omega)) (kp.2 c)).symm
  · rw [gp.1 (by omega), kp.1 c]
