/-! ===== answers of the telling, side by side ===== -/
/-- the bits of a number, both ways -/
theorem zu_cM_bi {b y i : Int} (b12 : b ≤ 12) (hy : 0 ≤ y ∧ y < zx_p2 b) (i0 : 0 ≤ i) (i1 : i < b) : zu_cM y (12 - b + i) = decide (zt_bi b y i = 1) := by
  have h2 := zx_p2_le (m := b) (n := 12) b12
  have e12 := zx_p2_12
  have q := zu_and_p2 (y := y) (j := b - 1 - i) ⟨hy.1, by omega⟩ ⟨by omega, by omega⟩
  have v := zt_bi_v (b := b) (x := y) (i := i) ⟨hy.1, by omega⟩ i0 i1 b12
  unfold zu_cM
  rw [show 11 - (12 - b + i) = b - 1 - i by omega]
  refine decide_eq_decide.mpr ?_
  rw [v]
  constructor
  · intro w
    have : ¬ y / 2 ^ (b - 1 - i).toNat % 2 = 0 := fun g => w (q.mpr g)
    omega
  · intro w g
    have := q.mp g
    omega
theorem zu_cM_hi {b y i : Int} (b0 : 0 ≤ b) (b12 : b ≤ 12) (hy : 0 ≤ y ∧ y < zx_p2 b) (i0 : 0 ≤ i) (i1 : i < 12 - b) : ¬ zu_cM y i = true := by
  have h2 := zx_p2_le (m := b) (n := 12) b12
  have e12 := zx_p2_12
  have h3 := zx_p2_le (m := b) (n := 11 - i) (by omega)
  have q := zu_and_p2 (y := y) (j := 11 - i) ⟨hy.1, by omega⟩ ⟨by omega, by omega⟩
  refine zu_cM_n (q.mpr ?_)
  have e : y / 2 ^ (11 - i).toNat = 0 := Int.ediv_eq_zero_of_lt hy.1 (by show y < zx_p2 (11 - i); omega)
  rw [e]
  rfl
theorem zu_fo_tie {σ ρ : zq_S} {a o f x : Int} (hx : zx_T ρ) (lk : zu_lk σ ρ a o) (f0 : 0 ≤ f) (f3 : f ≤ 3) (x0 : 0 ≤ x) (x1 : x < zx_p2 (ρ 0 2)) : zu_fo (zu_cM (σ (a + 1) f)) (zu_cM x) 12 = zu_rf ρ o x f := by
  have zb := zx_g2 hx
  have em := lk.2.2 f f0 f3
  have hm := zt_mk_r (fun i => decide (zt_L ρ o i = 2 + f)) (ρ 0 2)
  rw [← em] at hm
  have k := zu_fo_sk (M := zu_cM (σ (a + 1) f)) (X := zu_cM x) (M' := fun i => decide (zt_L ρ o i = 2 + f)) (X' := fun i => decide (zt_bi (ρ 0 2) x i = 1)) (a := 12 - ρ 0 2) (k := ρ 0 2) (by omega) (by omega) (fun i i0 i1 => zu_cM_hi (by omega) (by omega) hm i0 i1) (fun i i0 i1 => ⟨?_, zu_cM_bi (by omega) ⟨x0, x1⟩ i0 i1⟩)
  · rw [show 12 - ρ 0 2 + ρ 0 2 = 12 by omega] at k
    exact k
  · rw [zu_cM_bi (by omega) hm i0 i1, em]
    have w := zt_bi_mk (P := fun i => decide (zt_L ρ o i = 2 + f)) (b := ρ 0 2) (by omega) (by omega) i0 i1
    by_cases c : zt_L ρ o i = 2 + f
    · rw [decide_eq_true c]
      exact decide_eq_true (w.mpr (decide_eq_true c))
    · rw [decide_eq_false c]
      exact decide_eq_false (fun g => c (of_decide_eq_true (w.mp g)))
