set_option maxHeartbeats 800000 in
theorem c_X12_isBits2 {σ : zq_S} (hσ : zx_T σ) (bits : Int) (q0 : zq_in bits) : zq_C zx_w yX12_isBits cX12_isBits 2 (some .boolean) 1 25 41 41 [ZR 0, ZI bits] σ (zq_pp σ (fun r => (r = 0 ∨ r = 1) ∧ (r = 1 ↔ 0 ≤ bits ∧ bits < zx_p2 (σ 0 2)) ∧ (r = 1 → bits ≤ 4095))) := by
  refine zq_C_of (by decide) (Nat.le_refl _) (Nat.le_of_ble_eq_true rfl) [some (ZR 0), some (ZI bits)] rfl (fun V hV => ?_)
  show V 0 [some (ZR 0), some (ZI bits)] [] 41 σ
  refine zr_iload_n (pc := 0) hV dX12_isBits_0 rfl rfl ?_
  refine zr_i2l (pc := 1) hV dX12_isBits_1 (by omega) ?_
  refine zr_lconst (pc := 2) hV 0 dX12_isBits_2 (by decide) ?_
  refine zr_iconst (pc := 3) hV 1 dX12_isBits_3 rfl ?_
  refine zr_aload_n (pc := 4) hV dX12_isBits_4 rfl rfl ?_
  refine zr_getI (pc := 5) hV 2 dX12_isBits_5 fX12_16 rfl rfl rfl (by decide) ?_
  have t1 := zx_g2 hσ
  refine zr_ishl (pc := 8) hV dX12_isBits_8 ?_
  have t2 := zx_shl_one (y := σ 0 2) 12 4096 (by decide) (by decide) (by omega)
  refine zr_iconst (pc := 9) hV 1 dX12_isBits_9 rfl ?_
  refine zr_isub (pc := 10) hV dX12_isBits_10 ?_
  refine zr_i2l (pc := 11) hV dX12_isBits_11 (by omega) ?_
  refine zr_callSp (pc := 12) hV [ZL bits, ZL 0, ZL ((zq_shl 1 (σ 0 2)) - 1)] (st := []) (c_X12_in (σ := σ) bits 0 ((zq_shl 1 (σ 0 2)) - 1) (by omega) (by omega) (by omega)) dX12_isBits_12 mX12_170 (by decide) (Nat.le_of_ble_eq_true rfl) (Nat.le_refl _) (fun r12 hr12 pr12 => ?_)
  exact zr_zret (pc := 15) hV dX12_isBits_15 rfl rfl (by omega) ⟨rfl, _, rfl, (by omega), (by omega)⟩
