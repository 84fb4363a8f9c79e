/-! ===== a LINE written, side by side ===== -/
theorem zu_name_tie {c r : Int} (h : zu_nt c r) : ∀ i : Int, 0 ≤ i → i < 3 → zu_cP c i = zu_rP r i ∧ (zu_cP c i = true → zu_cB c i = zu_rB r i) := by
  obtain ⟨x, y, z, hx, hy, hz, hxy, er, ec⟩ := zu_nt_d h
  have hc : 0 ≤ c ∧ c ≤ 2147483647 := by omega
  have hr : 0 ≤ r ∧ r ≤ 2147483647 := by omega
  have s16 : zq_shr c 16 = c / 65536 := zq_shr_v hc (by decide)
  have s8 : zq_shr c 8 = c / 256 := zq_shr_v hc (by decide)
  have s0 : zq_shr c 0 = c := (zq_shr_v hc (by decide)).trans (Int.ediv_one c)
  have d7 : zq_div r 729 = r / 729 := zq_div_c 729 (by decide) hr
  have d2 : zq_div r 27 = r / 27 := zq_div_c 27 (by decide) hr
  have d1 : zq_div r 1 = r := (zq_div_c 1 (by decide) hr).trans (Int.ediv_one r)
  have m := fun v => (zq_and_mask v 8 255 256 (by decide) (by decide) (by decide)).1
  have e7 : zq_rem (zq_div r 729) 27 = r / 729 % 27 := by rw [d7]; exact zq_rem_c 27 (by decide) (by omega)
  have e2 : zq_rem (zq_div r 27) 27 = r / 27 % 27 := by rw [d2]; exact zq_rem_c 27 (by decide) (by omega)
  have e1 : zq_rem (zq_div r 1) 27 = r % 27 := by rw [d1]; exact zq_rem_c 27 (by decide) (by omega)
  have r7 : r / 729 = x := by omega
  have r27 : r / 27 = 27 * x + y := by omega
  have rz : r % 27 = z := by omega
  have x27 : x % 27 = x := by omega
  have y27 : (27 * x + y) % 27 = y := by omega
  have key : (c / 65536 ≠ 0 ↔ 0 < x) ∧ (0 < x → c / 65536 % 256 = 96 + x) ∧ (c / 256 ≠ 0 ↔ 0 < y) ∧ (0 < y → c / 256 % 256 = 96 + y) ∧ c ≠ 0 ∧ c % 256 = 96 + z := by
    rcases ec with ⟨a1, a2, a3⟩ | ⟨a1, a2, a3⟩ | ⟨a1, a2, a3⟩
    · have e1 : c / 65536 = 0 := by omega
      have e2 : c / 256 = 0 := by omega
      have e3 : c % 256 = 96 + z := by omega
      exact ⟨by omega, by omega, by omega, by omega, by omega, e3⟩
    · have e1 : c / 65536 = 0 := by omega
      have e2 : c / 256 = 96 + y := by omega
      have e3 : c % 256 = 96 + z := by omega
      exact ⟨by omega, by omega, by omega, by omega, by omega, e3⟩
    · have e1 : c / 65536 = 96 + x := by omega
      have e2 : c / 256 = (96 + x) * 256 + (96 + y) := by omega
      have e3 : c % 256 = 96 + z := by omega
      exact ⟨by omega, by omega, by omega, by omega, by omega, e3⟩
  obtain ⟨k1, k2, k3, k4, k5, k6⟩ := key
  rw [r7, x27] at e7
  rw [r27, y27] at e2
  rw [rz] at e1
  clear ec
  intro i i0 i1
  have hi : i = 0 ∨ i = 1 ∨ i = 2 := by omega
  unfold zu_cP zu_rP zu_cB zu_rB
  rcases hi with rfl | rfl | rfl
  · show decide (zq_shr c 16 ≠ 0) = decide (729 ≤ r) ∧ (decide (zq_shr c 16 ≠ 0) = true → zq_and (zq_shr c 16) 255 = 97 + zq_rem (zq_div r 729) 27 - 1)
    rw [s16, m, e7]
    refine ⟨decide_eq_decide.mpr (k1.trans (by omega)), fun q => ?_⟩
    have q := k2 (k1.mp (of_decide_eq_true q))
    omega
  · show decide (zq_shr c 8 ≠ 0) = decide (27 ≤ r) ∧ (decide (zq_shr c 8 ≠ 0) = true → zq_and (zq_shr c 8) 255 = 97 + zq_rem (zq_div r 27) 27 - 1)
    rw [s8, m, e2]
    refine ⟨decide_eq_decide.mpr (k3.trans (by omega)), fun q => ?_⟩
    have q := k4 (k3.mp (of_decide_eq_true q))
    omega
  · show decide (zq_shr c 0 ≠ 0) = decide (1 ≤ r) ∧ (decide (zq_shr c 0 ≠ 0) = true → zq_and (zq_shr c 0) 255 = 97 + zq_rem (zq_div r 1) 27 - 1)
    rw [s0, m, e1]
    exact ⟨decide_eq_decide.mpr ⟨fun _ => by omega, fun _ => k5⟩, fun q => by omega⟩
theorem zu_text {σ ρ : zq_S} {a o x : Int} {A B : Int → Int} (hx : zx_T ρ) (h : zu_or σ ρ a o) (x0 : 0 ≤ x) (x1 : x < zx_p2 (ρ 0 2)) : zu_ev (zu_tc σ a x A) (zu_tr ρ o x B) := by
  have nm := zu_ev_nm (s := (0, A)) (t := (0, B)) ⟨rfl, Int.le_refl 0, fun j j0 j1 => absurd (show j < 0 from j1) (by omega)⟩ 3 (fun i i0 i1 => zu_name_tie h.1 i i0 (by omega))
  exact (zu_ev_fs nm 4 (fun f f0 f1 => ⟨by
    have b := zu_bc hx h.2.1 f0 (show f ≤ 3 by omega)
    unfold zu_cH zu_rH
    refine decide_eq_decide.mpr ⟨fun q => ?_, fun q e => ?_⟩
    · have : ¬ zx_cnt ρ o f (ρ 0 2) = 0 := fun e => q (b.2.1.mpr e)
      omega
    · have := b.2.1.mp e
      omega, fun _ => zu_fo_tie hx h.2.1 f0 (by omega) x0 x1⟩)).1
theorem zu_rf_lt (ρ : zq_S) (o x f : Int) : ∀ k : Nat, zu_foF (fun i => decide (zt_L ρ o i = 2 + f)) (fun i => decide (zt_bi (ρ 0 2) x i = 1)) k < zx_p2 (zx_cnt ρ o f k) := by
  intro k
  induction k with
  | zero => show (0 : Int) < zx_p2 (zx_cnt ρ o f 0); have := zx_p2_pos (zx_cnt ρ o f 0); omega
  | succ k ih =>
    have hs := zx_cnt_s ρ o f k (by omega)
    have hb := zx_cnt_b ρ o f k (by omega)
    rw [show ((k + 1 : Nat) : Int) = (k : Int) + 1 by omega]
    show (if decide (zt_L ρ o k = 2 + f) = true then 2 * zu_foF (fun i => decide (zt_L ρ o i = 2 + f)) (fun i => decide (zt_bi (ρ 0 2) x i = 1)) k + (if decide (zt_bi (ρ 0 2) x k = 1) = true then 1 else 0) else zu_foF (fun i => decide (zt_L ρ o i = 2 + f)) (fun i => decide (zt_bi (ρ 0 2) x i = 1)) k) < _
    by_cases c : zt_L ρ o k = 2 + f
    · rw [if_pos (decide_eq_true c), hs.1 c, zx_p2_s _ (by omega)]
      split <;> omega
    · rw [if_neg (fun q => c (of_decide_eq_true q)), hs.2 c]
      exact ih
theorem zu_cv_b {σ ρ : zq_S} {a o x : Int} (hx : zx_T ρ) (hB : zx_B ρ o) (h : zu_or σ ρ a o) (x0 : 0 ≤ x) (x1 : x < zx_p2 (ρ 0 2)) : (∀ f, 0 ≤ f → f ≤ 2 → zu_cv σ a x f ≤ 7) ∧ zu_cv σ a x 3 ≤ 255 := by
  have zb := zx_g2 hx
  have key : ∀ f, 0 ≤ f → f ≤ 3 → (f ≤ 2 → zu_cv σ a x f ≤ 7) ∧ zu_cv σ a x f ≤ 255 := fun f f0 f3 => by
    have e : zu_cv σ a x f = zu_rf ρ o x f := zu_fo_tie hx h.2.1 f0 f3 x0 x1
    have l := zu_rf_lt ρ o x f (ρ 0 2).toNat
    rw [show (((ρ 0 2).toNat : Nat) : Int) = ρ 0 2 by omega] at l
    have l : zu_rf ρ o x f < zx_p2 (zx_cnt ρ o f (ρ 0 2)) := l
    rw [e]
    exact zx_fld hB ⟨f0, f3⟩ l
  exact ⟨fun f f0 f2 => (key f f0 (by omega)).1 f2, (key 3 (by decide) (by decide)).2⟩
theorem zu_textL {σ ρ : zq_S} {x n v u : Int} (hx : zx_T ρ) (h : zu_T3 σ ρ) (e2 : σ 3 2 = ρ 0 2) (gw : zq_hid ((¬ (0 ≤ x ∧ x < zx_p2 (σ 3 2) ∧ -1 ≤ n) → v = -1) ∧ ((0 ≤ x ∧ x < zx_p2 (σ 3 2) ∧ -1 ≤ n) → (¬ (0 ≤ σ 11 x ∧ σ 11 x < σ 3 3) → v = -4) ∧ ((0 ≤ σ 11 x ∧ σ 11 x < σ 3 3) → zu_tq (zu_tc σ (σ 10 (σ 11 x)) x (σ 133)) n v)))) (kw : zq_hid ((¬ (0 ≤ x ∧ x < zx_p2 (ρ 0 2) ∧ -1 ≤ n) → u = -1) ∧ ((0 ≤ x ∧ x < zx_p2 (ρ 0 2) ∧ -1 ≤ n) → ∃ o, zt_ow ρ x o ∧ (o < 0 → u = -4) ∧ (0 ≤ o → zu_tq (zu_tr ρ o x (ρ 20)) n u)))) : u = v := by
  have e := h.1.1
  unfold zq_hid at gw kw
  rw [e2] at gw
  by_cases c : 0 ≤ x ∧ x < zx_p2 (ρ 0 2) ∧ -1 ≤ n
  · obtain ⟨g1, g2⟩ := gw.2 c
    obtain ⟨o, ho, k1, k2⟩ := kw.2 c
    rcases zu_own h c.1 c.2.1 ho with ⟨w, z⟩ | ⟨w, z, z2⟩
    · rw [k1 (by omega), g1 (by omega)]
    · have g3 := g2 (by omega)
      rw [w] at g3
      exact (zu_tq_u (zu_text hx (h.2.2.1 o z z2) c.1 c.2.1) c.2.2 g3 (k2 z)).symm
  · rw [gw.1 c, kw.1 c]
theorem zu_nt_b {c r : Int} (h : zu_nt c r) : 0 ≤ r ∧ r ≤ 19682 := by
  obtain ⟨x, y, z, hx, hy, hz, hxy, er, ec⟩ := zu_nt_d h
  omega
