set_option maxHeartbeats 800000 in
theorem c_X12_mask2 {σ : zq_S} (hσ : zx_T σ)  : zq_C zx_w yX12_mask cX12_mask 1 (some .int) 0 0 41 41 [ZR 0] σ (zq_pp σ (fun r => 0 ≤ r ∧ r ≤ 255 ∧ r = zx_p2 (σ 0 0) - 1)) := by
  refine zq_C_of (by decide) (Nat.le_refl _) (Nat.le_of_ble_eq_true rfl) [some (ZR 0)] rfl (fun V hV => ?_)
  have z0 := zx_g0 hσ
  have zsh : zq_shl 1 (σ 0 0) = zx_p2 (σ 0 0) := (zx_shl_one 12 4096 (by decide) (by decide) (by omega)).1
  show V 0 [some (ZR 0)] [] 41 σ
  refine zr_iconst (pc := 0) hV 1 dX12_mask_0 rfl ?_
  refine zr_aload_n (pc := 1) hV dX12_mask_1 rfl rfl ?_
  refine zr_getI (pc := 2) hV 0 dX12_mask_2 fX12_7 rfl rfl rfl (by decide) ?_
  have t1 := zx_g0 hσ
  refine zr_ishl (pc := 5) hV dX12_mask_5 ?_
  have t2 := zx_shl_one (y := σ 0 0) 8 256 (by decide) (by decide) (by omega)
  refine zr_iconst (pc := 6) hV 1 dX12_mask_6 rfl ?_
  refine zr_isub (pc := 7) hV dX12_mask_7 ?_
  exact zr_iret (pc := 8) hV dX12_mask_8 rfl rfl ⟨rfl, _, rfl, (by omega), (by omega)⟩
