set_option maxHeartbeats 800000 in
theorem c_X9_numbered_2 {σ : zq_S} (hσ : zc_T σ) (number : Int) (q0 : zq_in number) : zq_C zc_w yX9_numbered cX9_numbered 2 (some (.object "OrdersTold$Order")) 0 0 284 284 [ZR 3, ZI number] σ (zq_pr σ (fun r => (0 ≤ r → zc_kd r = 4) ∧ ((0 ≤ r → 0 ≤ number ∧ number < σ 3 3 ∧ r = σ 10 number) ∧ (r < 0 → ¬ (0 ≤ number ∧ number < σ 3 3))))) := by
  refine zq_C_of (by decide) (Nat.le_refl _) (Nat.le_of_ble_eq_true rfl) [some (ZR 3), some (ZI number)] rfl (fun V hV => ?_)
  show V 0 [some (ZR 3), some (ZI number)] [] 284 σ
  refine zr_iload_n (pc := 0) hV dX9_numbered_0 rfl rfl ?_
  refine zr_if_lt (pc := 1) hV 21 dX9_numbered_1 (by decide) (by omega) (fun c1 => ?_) (fun c1 => ?_)
  · show V 21 [some (ZR 3), some (ZI number)] [] 284 σ
    refine zr_null (pc := 21) hV dX9_numbered_21 ?_
    show V 22 [some (ZR 3), some (ZI number)] [ZN] 284 σ
    exact zr_aretN (pc := 22) hV dX9_numbered_22 rfl rfl ⟨rfl, _, rfl, fun h => absurd h (by decide), (by omega)⟩
  · show V 4 [some (ZR 3), some (ZI number)] [] 284 σ
    refine zr_iload_n (pc := 4) hV dX9_numbered_4 rfl rfl ?_
    refine zr_aload_n (pc := 5) hV dX9_numbered_5 rfl rfl ?_
    refine zr_getI (pc := 6) hV 3 dX9_numbered_6 fX9_36 rfl rfl (zc_k3 zc_s3) (zc_pos zc_s3 rfl) ?_
    have t2 := zc_g3_3 hσ zc_s3
    refine zr_icmp_ge (pc := 9) hV 21 dX9_numbered_9 (by decide) (by omega) (by omega) (fun c3 => ?_) (fun c3 => ?_)
    · show V 21 [some (ZR 3), some (ZI number)] [] 284 σ
      refine zr_null (pc := 21) hV dX9_numbered_21 ?_
      show V 22 [some (ZR 3), some (ZI number)] [ZN] 284 σ
      exact zr_aretN (pc := 22) hV dX9_numbered_22 rfl rfl ⟨rfl, _, rfl, fun h => absurd h (by decide), (by omega)⟩
    · show V 12 [some (ZR 3), some (ZI number)] [] 284 σ
      refine zr_aload_n (pc := 12) hV dX9_numbered_12 rfl rfl ?_
      refine zr_getR (pc := 13) hV 6 10 dX9_numbered_13 fX9_18 rfl rfl (zc_k3 zc_s3) (zc_pos zc_s3 rfl) (zc_g3_6 hσ zc_s3) (by decide) ?_
      refine zr_iload_n (pc := 16) hV dX9_numbered_16 rfl rfl ?_
      have ga17 : zc_kd (σ 10 number) = 4 := zc_ga10 hσ zc_s10 number (by omega) (by omega)
      refine zr_aald (pc := 17) hV dX9_numbered_17 (zc_k10 zc_s10) (Or.inl rfl) (zc_pos zc_s10 rfl) rfl (by omega) (zc_pos ga17 rfl).1 ?_
      obtain ⟨o17, eo17⟩ : ∃ o, σ 10 number = o := ⟨_, rfl⟩
      rw [eo17] at ga17 ⊢
      have ko17 := ga17
      have po17 := zc_pos ko17 rfl
      show V 18 [some (ZR 3), some (ZI number)] [ZR o17] 284 σ
      refine zr_goto (pc := 18) hV 22 dX9_numbered_18 (by decide) ?_
      show V 22 [some (ZR 3), some (ZI number)] [ZR o17] 284 σ
      exact zr_aretR (pc := 22) hV dX9_numbered_22 rfl rfl (zc_pos ko17 rfl).1 ⟨rfl, _, rfl, fun _ => ko17, (by omega)⟩
