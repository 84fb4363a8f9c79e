/-! ===== a step, side by side ===== -/
theorem zs_cv_rf {σ ρ : zq_S} {a o x : Int} (hρ : zx_T ρ) (h : zu_or σ ρ a o) (x0 : 0 ≤ x) (x1 : x < zx_p2 (ρ 0 2)) (f : Int) (f0 : 0 ≤ f) (f3 : f ≤ 3) : zu_cv σ a x f = zu_rf ρ o x f := zu_fo_tie hρ h.2.1 f0 f3 x0 x1
theorem zs_rf_b {σ ρ : zq_S} {a o x : Int} (hρ : zx_T ρ) (hB : zx_B ρ o) (h : zu_or σ ρ a o) (x0 : 0 ≤ x) (x1 : x < zx_p2 (ρ 0 2)) : (∀ f, 0 ≤ f → f ≤ 2 → 0 ≤ zu_rf ρ o x f ∧ zu_rf ρ o x f ≤ 7) ∧ (0 ≤ zu_rf ρ o x 3 ∧ zu_rf ρ o x 3 ≤ zx_p2 (ρ 0 0) - 1) := by
  have b := zu_cv_b hρ hB h x0 x1
  have e := zs_cv_rf hρ h x0 x1
  have zb := zx_g2 hρ
  refine ⟨fun f f0 f2 => ⟨(zu_fo_b _ _ _).1, ?_⟩, (zu_fo_b _ _ _).1, ?_⟩
  · rw [← e f f0 (by omega)]; exact b.1 f f0 f2
  · have l := zu_rf_lt ρ o x 3 (ρ 0 2).toNat
    rw [show (((ρ 0 2).toNat : Nat) : Int) = ρ 0 2 by omega] at l
    have l : zu_rf ρ o x 3 < zx_p2 (zx_cnt ρ o 3 (ρ 0 2)) := l
    have c := zu_bc hρ h.2.1 (f := 3) (by decide) (by decide)
    have k := h.2.2.2.2
    have p := zx_p2_le (m := zx_cnt ρ o 3 (ρ 0 2)) (n := ρ 0 0) (by omega)
    omega
theorem zs_og_mk {σ ρ : zq_S} {a o x : Int} (hσ : zc_T σ) (hρ : zx_T ρ) (hB : zx_B ρ o) (ka : zc_kd a = 4) (h : zu_or σ ρ a o) (x0 : 0 ≤ x) (x1 : x < zx_p2 (ρ 0 2)) : zs_og σ a x (zx_p2 (ρ 0 0) - 1) := by
  have b := zs_rf_b hρ hB h x0 x1
  have e := zs_cv_rf hρ h x0 x1
  have od := (zs_od (F := fun _ => 0) hσ hρ ka h (fun _ _ _ => ⟨by decide, by decide⟩)).1
  obtain ⟨-, -, ⟨⟨g1, g2, g3, g4⟩, g5, g6, -⟩, -⟩ := h
  have z4 := zx_ga4 hρ o
  refine ⟨⟨fun q => ⟨g5 q, by omega⟩, fun j j0 j1 => ?_⟩, ⟨fun f f0 f2 => ?_, ?_⟩, od⟩
  · obtain ⟨⟨e0, -⟩, s⟩ := g6 j j0 (by omega)
    have z := zx_ac0 hρ (18 * o + 6 * j) (by omega)
    exact ⟨by omega, s⟩
  · rw [e f f0 (by omega)]; exact b.1 f f0 f2
  · rw [e 3 (by decide) (by decide)]; exact b.2
