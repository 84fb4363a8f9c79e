set_option maxHeartbeats 800000 in
theorem c_X12_shared2 {σ : zq_S} (hσ : zx_T σ)  : zq_C zx_w yX12_shared cX12_shared 1 (some .int) 0 0 41 41 [ZR 0] σ (zq_pp σ (fun r => r = σ 0 18)) := by
  refine zq_C_of (by decide) (Nat.le_refl _) (Nat.le_of_ble_eq_true rfl) [some (ZR 0)] rfl (fun V hV => ?_)
  show V 0 [some (ZR 0)] [] 41 σ
  refine zr_aload_n (pc := 0) hV dX12_shared_0 rfl rfl ?_
  refine zr_getI (pc := 1) hV 18 dX12_shared_1 fX12_157 rfl rfl rfl (by decide) ?_
  have t1 := zx_g18 hσ
  exact zr_iret (pc := 4) hV dX12_shared_4 rfl rfl ⟨rfl, _, rfl, (by omega), (by omega)⟩
