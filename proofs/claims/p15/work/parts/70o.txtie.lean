/-! ===== a LINE written, side by side ===== -/
theorem zu_rf_lt (ρ : zq_S) (o x f : Int) : ∀ k : Nat, zu_foF (fun i => decide (zt_L ρ o i = 2 + f)) (fun i => decide (zt_bi (ρ 0 2) x i = 1)) k < zx_p2 (zx_cnt ρ o f k) := by
  intro k
  induction k with
  | zero => show (0 : Int) < zx_p2 (zx_cnt ρ o f 0); have := zx_p2_pos (zx_cnt ρ o f 0); omega
  | succ k ih =>
    have hs := zx_cnt_s ρ o f k (by omega)
    have hb := zx_cnt_b ρ o f k (by omega)
    rw [show ((k + 1 : Nat) : Int) = (k : Int) + 1 by omega]
    show (if decide (zt_L ρ o k = 2 + f) = true then 2 * zu_foF (fun i => decide (zt_L ρ o i = 2 + f)) (fun i => decide (zt_bi (ρ 0 2) x i = 1)) k + (if decide (zt_bi (ρ 0 2) x k = 1) = true then 1 else 0) else zu_foF (fun i => decide (zt_L ρ o i = 2 + f)) (fun i => decide (zt_bi (ρ 0 2) x i = 1)) k) < _
    by_cases c : zt_L ρ o k = 2 + f
    · rw [if_pos (decide_eq_true c), hs.1 c, zx_p2_s _ (by omega)]
      split <;> omega
    · rw [if_neg (fun q => c (of_decide_eq_true q)), hs.2 c]
      exact ih
theorem zu_cv_b {σ ρ : zq_S} {a o x : Int} (hx : zx_T ρ) (hB : zx_B ρ o) (h : zu_or σ ρ a o) (x0 : 0 ≤ x) (x1 : x < zx_p2 (ρ 0 2)) : (∀ f, 0 ≤ f → f ≤ 2 → zu_cv σ a x f ≤ 7) ∧ zu_cv σ a x 3 ≤ 255 := by
  have zb := zx_g2 hx
  have key : ∀ f, 0 ≤ f → f ≤ 3 → (f ≤ 2 → zu_cv σ a x f ≤ 7) ∧ zu_cv σ a x f ≤ 255 := fun f f0 f3 => by
    have e : zu_cv σ a x f = zu_rf ρ o x f := zu_fo_tie hx h.2.1 f0 f3 x0 x1
    have l := zu_rf_lt ρ o x f (ρ 0 2).toNat
    rw [show (((ρ 0 2).toNat : Nat) : Int) = ρ 0 2 by omega] at l
    have l : zu_rf ρ o x f < zx_p2 (zx_cnt ρ o f (ρ 0 2)) := l
    rw [e]
    exact zx_fld hB ⟨f0, f3⟩ l
  exact ⟨fun f f0 f2 => (key f f0 (by omega)).1 f2, (key 3 (by decide) (by decide)).2⟩
