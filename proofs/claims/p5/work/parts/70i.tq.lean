set_option maxHeartbeats 800000 in
theorem c_X11_shared_2 {σ : zq_S} (hσ : zc_T σ)   (Uσ : zc_U σ) : zq_C zc_w yX11_shared cX11_shared 1 (some .int) 0 0 284 284 [ZR 0] σ (zq_pp σ (fun r => r = σ 3 4)) := by
  refine zq_C_of (by decide) (Nat.le_refl _) (Nat.le_of_ble_eq_true rfl) [some (ZR 0)] rfl (fun V hV => ?_)
  show V 0 [some (ZR 0)] [] 284 σ
  refine zr_aload_n (pc := 0) hV dX11_shared_0 rfl rfl ?_
  refine zr_getR (pc := 1) hV 1 3 dX11_shared_1 fX11_19 rfl rfl (zc_k0 zc_s0) (zc_pos zc_s0 rfl) (zc_g0_1 hσ zc_s0) (by decide) ?_
  refine zr_getI (pc := 4) hV 4 dX11_shared_4 fX11_110 rfl rfl (zc_k3 zc_s3) (zc_pos zc_s3 rfl) ?_
  have t1 := zc_g3_4 hσ zc_s3
  exact zr_iret (pc := 7) hV dX11_shared_7 rfl rfl ⟨rfl, _, rfl, (by omega), (by omega)⟩
