/-! ===== answers of the telling, side by side ===== -/
theorem zu_flfm {σ ρ : zq_S} {a o : Int} (hx : zx_T ρ) (h : zu_lk σ ρ a o) : zu_fl (σ (a + 1)) 4 = zx_fm ρ o 4 := by
  have key : ∀ k : Nat, k ≤ 4 → zu_flF (σ (a + 1)) k = zx_fmN ρ o k := by
    intro k
    induction k with
    | zero => intro _; rfl
    | succ k ih =>
      intro hk
      have b := zu_bc hx h (f := (k : Int)) (by omega) (by omega)
      show zq_or (zu_flF (σ (a + 1)) k) (if σ (a + 1) k ≠ 0 then zq_shl 1 k else 0) = zq_or (zx_fmN ρ o k) (if 0 < zx_cnt ρ o k (ρ 0 2) then zq_shl 1 k else 0)
      rw [ih (by omega)]
      by_cases c : 0 < zx_cnt ρ o k (ρ 0 2)
      · rw [if_pos c, if_pos (fun q => by have := b.2.1.mp q; omega)]
      · rw [if_neg c, if_neg (fun q => q (b.2.1.mpr (by omega)))]
  exact key 4 (by decide)
