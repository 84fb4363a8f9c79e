/-! ===== answers of the telling, side by side ===== -/
theorem zu_own {σ ρ : zq_S} {x r : Int} (h : zu_T3 σ ρ) (x0 : 0 ≤ x) (x1 : x < zx_p2 (ρ 0 2)) (ho : zt_ow ρ x r) : (σ 11 x = -1 ∧ r = -4) ∨ (σ 11 x = r ∧ 0 ≤ r ∧ r < ρ 0 3) := by
  obtain ⟨-, -, -, a5, a6⟩ := h
  have bb := a6 x x0 x1
  by_cases c : σ 11 x < 0
  · refine Or.inl ⟨(bb.1 c).1, ?_⟩
    by_cases d : r < 0
    · exact (ho.1 d).1
    · obtain ⟨b1, b2, -⟩ := ho.2 (by omega)
      exact absurd b2 ((bb.1 c).2 r (by omega) b1)
  · obtain ⟨b1, b2⟩ := bb.2 (by omega)
    by_cases d : r < 0
    · exact absurd b2 ((ho.1 d).2 _ (by omega) b1)
    · obtain ⟨g1, g2, -⟩ := ho.2 (by omega)
      refine Or.inr ⟨?_, by omega, g1⟩
      by_cases e : σ 11 x = r
      · exact e
      · exfalso
        by_cases f : σ 11 x < r
        · exact a5 _ r (by omega) f g1 (zt_is_co b2 g2)
        · exact a5 r _ (by omega) (by omega) b1 (zt_is_co g2 b2)
theorem zu_flfm {σ ρ : zq_S} {a o : Int} (hx : zx_T ρ) (h : zu_lk σ ρ a o) : zu_fl (σ (a + 1)) 4 = zx_fm ρ o 4 := by
  have key : ∀ k : Nat, k ≤ 4 → zu_flF (σ (a + 1)) k = zx_fmN ρ o k := by
    intro k
    induction k with
    | zero => intro _; rfl
    | succ k ih =>
      intro hk
      have b := zu_bc hx h (f := (k : Int)) (by omega) (by omega)
      show zq_or (zu_flF (σ (a + 1)) k) (if σ (a + 1) k ≠ 0 then zq_shl 1 k else 0) = zq_or (zx_fmN ρ o k) (if 0 < zx_cnt ρ o k (ρ 0 2) then zq_shl 1 k else 0)
      rw [ih (by omega)]
      by_cases c : 0 < zx_cnt ρ o k (ρ 0 2)
      · rw [if_pos c, if_pos (fun q => by have := b.2.1.mp q; omega)]
      · rw [if_neg c, if_neg (fun q => q (b.2.1.mpr (by omega)))]
  exact key 4 (by decide)
/-- the bits of a number, both ways -/
theorem zu_cM_bi {b y i : Int} (b12 : b ≤ 12) (hy : 0 ≤ y ∧ y < zx_p2 b) (i0 : 0 ≤ i) (i1 : i < b) : zu_cM y (12 - b + i) = decide (zt_bi b y i = 1) := by
  have h2 := zx_p2_le (m := b) (n := 12) b12
  have e12 := zx_p2_12
  have q := zu_and_p2 (y := y) (j := b - 1 - i) ⟨hy.1, by omega⟩ ⟨by omega, by omega⟩
  have v := zt_bi_v (b := b) (x := y) (i := i) ⟨hy.1, by omega⟩ i0 i1 b12
  unfold zu_cM
  rw [show 11 - (12 - b + i) = b - 1 - i by omega]
  refine decide_eq_decide.mpr ?_
  rw [v]
  constructor
  · intro w
    have : ¬ y / 2 ^ (b - 1 - i).toNat % 2 = 0 := fun g => w (q.mpr g)
    omega
  · intro w g
    have := q.mp g
    omega
theorem zu_cM_hi {b y i : Int} (b0 : 0 ≤ b) (b12 : b ≤ 12) (hy : 0 ≤ y ∧ y < zx_p2 b) (i0 : 0 ≤ i) (i1 : i < 12 - b) : ¬ zu_cM y i = true := by
  have h2 := zx_p2_le (m := b) (n := 12) b12
  have e12 := zx_p2_12
  have h3 := zx_p2_le (m := b) (n := 11 - i) (by omega)
  have q := zu_and_p2 (y := y) (j := 11 - i) ⟨hy.1, by omega⟩ ⟨by omega, by omega⟩
  refine zu_cM_n (q.mpr ?_)
  have e : y / 2 ^ (11 - i).toNat = 0 := Int.ediv_eq_zero_of_lt hy.1 (by show y < zx_p2 (11 - i); omega)
  rw [e]
  rfl
theorem zu_fo_tie {σ ρ : zq_S} {a o f x : Int} (hx : zx_T ρ) (lk : zu_lk σ ρ a o) (f0 : 0 ≤ f) (f3 : f ≤ 3) (x0 : 0 ≤ x) (x1 : x < zx_p2 (ρ 0 2)) : zu_fo (zu_cM (σ (a + 1) f)) (zu_cM x) 12 = zu_rf ρ o x f := by
  have zb := zx_g2 hx
  have em := lk.2.2 f f0 f3
  have hm := zt_mk_r (fun i => decide (zt_L ρ o i = 2 + f)) (ρ 0 2)
  rw [← em] at hm
  have k := zu_fo_sk (M := zu_cM (σ (a + 1) f)) (X := zu_cM x) (M' := fun i => decide (zt_L ρ o i = 2 + f)) (X' := fun i => decide (zt_bi (ρ 0 2) x i = 1)) (a := 12 - ρ 0 2) (k := ρ 0 2) (by omega) (by omega) (fun i i0 i1 => zu_cM_hi (by omega) (by omega) hm i0 i1) (fun i i0 i1 => ⟨?_, zu_cM_bi (by omega) ⟨x0, x1⟩ i0 i1⟩)
  · rw [show 12 - ρ 0 2 + ρ 0 2 = 12 by omega] at k
    exact k
  · rw [zu_cM_bi (by omega) hm i0 i1, em]
    have w := zt_bi_mk (P := fun i => decide (zt_L ρ o i = 2 + f)) (b := ρ 0 2) (by omega) (by omega) i0 i1
    by_cases c : zt_L ρ o i = 2 + f
    · rw [decide_eq_true c]
      exact decide_eq_true (w.mpr (decide_eq_true c))
    · rw [decide_eq_false c]
      exact decide_eq_false (fun g => c (of_decide_eq_true (w.mp g)))
