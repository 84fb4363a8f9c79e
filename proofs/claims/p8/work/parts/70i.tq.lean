set_option maxHeartbeats 800000 in
theorem c_X9_isBits_2 {σ : zq_S} (hσ : zc_T σ) (bits : Int) (q0 : zq_in bits) : zq_C zc_w yX9_isBits cX9_isBits 2 (some .boolean) 1 20 284 284 [ZR 3, ZI bits] σ (zq_pp σ (fun r => (0 ≤ r ∧ r ≤ 1) ∧ (r = 1 → 0 ≤ bits ∧ bits ≤ 4095) ∧ (r = 1 ↔ 0 ≤ bits ∧ bits < zx_p2 (σ 3 2)))) := by
  refine zq_C_of (by decide) (Nat.le_refl _) (Nat.le_of_ble_eq_true rfl) [some (ZR 3), some (ZI bits)] rfl (fun V hV => ?_)
  show V 0 [some (ZR 3), some (ZI bits)] [] 284 σ
  refine zr_iload_n (pc := 0) hV dX9_isBits_0 rfl rfl ?_
  refine zr_if_lt (pc := 1) hV 16 dX9_isBits_1 (by decide) (by omega) (fun c1 => ?_) (fun c1 => ?_)
  · show V 16 [some (ZR 3), some (ZI bits)] [] 284 σ
    refine zr_iconst (pc := 16) hV 0 dX9_isBits_16 rfl ?_
    show V 17 [some (ZR 3), some (ZI bits)] [ZI 0] 284 σ
    exact zr_zret (pc := 17) hV dX9_isBits_17 rfl rfl (by omega) ⟨rfl, _, rfl, ⟨by decide, by decide⟩, (by omega)⟩
  · show V 4 [some (ZR 3), some (ZI bits)] [] 284 σ
    refine zr_iload_n (pc := 4) hV dX9_isBits_4 rfl rfl ?_
    refine zr_aload_n (pc := 5) hV dX9_isBits_5 rfl rfl ?_
    refine zr_callVp (pc := 6) hV [] (st := [ZI bits]) (c_X9_bitsInAll_2 (σ := σ) hσ) dX9_isBits_6 mX9_48 (zc_k3 zc_s3) (zc_pos zc_s3 rfl) (by decide) (Nat.le_of_ble_eq_true rfl) (Nat.le_refl _) (fun r6 hr6 pr6 => ?_)
    have t2 := zc_g3_2 hσ zc_s3
    refine zr_icmp_ge (pc := 9) hV 16 dX9_isBits_9 (by decide) (by omega) (by omega) (fun c3 => ?_) (fun c3 => ?_)
    · show V 16 [some (ZR 3), some (ZI bits)] [] 284 σ
      refine zr_iconst (pc := 16) hV 0 dX9_isBits_16 rfl ?_
      show V 17 [some (ZR 3), some (ZI bits)] [ZI 0] 284 σ
      exact zr_zret (pc := 17) hV dX9_isBits_17 rfl rfl (by omega) ⟨rfl, _, rfl, ⟨by decide, by decide⟩, (by omega)⟩
    · show V 12 [some (ZR 3), some (ZI bits)] [] 284 σ
      refine zr_iconst (pc := 12) hV 1 dX9_isBits_12 rfl ?_
      refine zr_goto (pc := 13) hV 17 dX9_isBits_13 (by decide) ?_
      show V 17 [some (ZR 3), some (ZI bits)] [ZI 1] 284 σ
      exact zr_zret (pc := 17) hV dX9_isBits_17 rfl rfl (by omega) ⟨rfl, _, rfl, ⟨by decide, by decide⟩, (by omega)⟩
set_option maxHeartbeats 800000 in
theorem c_X11_look_2 {σ : zq_S} (hσ : zc_T σ) (bits : Int) (q0 : zq_in bits) (Uσ : zc_U σ) : zq_C zc_w yX11_look cX11_look 3 (some .int) 2 41 284 284 [ZR 0, ZI bits] σ (zq_pp σ (fun r => (¬ (0 ≤ bits ∧ bits < zx_p2 (σ 3 2)) → r = -1) ∧ (0 ≤ bits ∧ bits < zx_p2 (σ 3 2) → (σ 11 bits < 0 → r = -4) ∧ (0 ≤ σ 11 bits → r = σ 11 bits)))) := by
  refine zq_C_of (by decide) (Nat.le_refl _) (Nat.le_of_ble_eq_true rfl) [some (ZR 0), some (ZI bits), none] rfl (fun V hV => ?_)
  show V 0 [some (ZR 0), some (ZI bits), none] [] 284 σ
  refine zr_aload_n (pc := 0) hV dX11_look_0 rfl rfl ?_
  refine zr_getR (pc := 1) hV 1 3 dX11_look_1 fX11_19 rfl rfl (zc_k0 zc_s0) (zc_pos zc_s0 rfl) (zc_g0_1 hσ zc_s0) (by decide) ?_
  refine zr_iload_n (pc := 4) hV dX11_look_4 rfl rfl ?_
  refine zr_callVp (pc := 5) hV [ZI bits] (st := []) (c_X9_isBits_2 (σ := σ) hσ bits (by omega)) dX11_look_5 mX11_127 (zc_k3 zc_s3) (zc_pos zc_s3 rfl) (by decide) (Nat.le_of_ble_eq_true rfl) (Nat.le_refl _) (fun r5 hr5 pr5 => ?_)
  have t1 := zc_g3_2 hσ zc_s3
  refine zr_if_ne (pc := 8) hV 13 dX11_look_8 (by decide) (by omega) (fun c2 => ?_) (fun c2 => ?_)
  · show V 13 [some (ZR 0), some (ZI bits), none] [] 284 σ
    refine zr_aload_n (pc := 13) hV dX11_look_13 rfl rfl ?_
    refine zr_getR (pc := 14) hV 1 3 dX11_look_14 fX11_19 rfl rfl (zc_k0 zc_s0) (zc_pos zc_s0 rfl) (zc_g0_1 hσ zc_s0) (by decide) ?_
    refine zr_iload_n (pc := 17) hV dX11_look_17 rfl rfl ?_
    refine zr_callVp (pc := 18) hV [ZI bits] (st := []) (c_X9_numberOf_2 (σ := σ) hσ bits (by omega)) dX11_look_18 mX11_131 (zc_k3 zc_s3) (zc_pos zc_s3 rfl) (by decide) (Nat.le_of_ble_eq_true rfl) (Nat.le_refl _) (fun r18 hr18 pr18 => ?_)
    refine zr_istore_n (pc := 21) hV [some (ZR 0), some (ZI bits), some (ZI r18)] dX11_look_21 rfl (by decide) rfl rfl ?_
    refine zr_iload_n (pc := 22) hV dX11_look_22 rfl rfl ?_
    refine zr_if_ge (pc := 23) hV 31 dX11_look_23 (by decide) (by omega) (fun c3 => ?_) (fun c3 => ?_)
    · show V 31 [some (ZR 0), some (ZI bits), some (ZI r18)] [] 284 σ
      refine zr_iload_n (pc := 31) hV dX11_look_31 rfl rfl ?_
      show V 32 [some (ZR 0), some (ZI bits), some (ZI r18)] [ZI r18] 284 σ
      exact zr_iret (pc := 32) hV dX11_look_32 rfl rfl ⟨rfl, _, rfl, (by omega), (by omega)⟩
    · show V 26 [some (ZR 0), some (ZI bits), some (ZI r18)] [] 284 σ
      refine zr_bipush (pc := 26) hV (-4) dX11_look_26 (by decide) ?_
      refine zr_goto (pc := 28) hV 32 dX11_look_28 (by decide) ?_
      show V 32 [some (ZR 0), some (ZI bits), some (ZI r18)] [ZI (-4)] 284 σ
      exact zr_iret (pc := 32) hV dX11_look_32 rfl rfl ⟨rfl, _, rfl, ⟨by decide, by decide⟩, (by omega)⟩
  · show V 11 [some (ZR 0), some (ZI bits), none] [] 284 σ
    refine zr_iconst (pc := 11) hV (-1) dX11_look_11 rfl ?_
    exact zr_iret (pc := 12) hV dX11_look_12 rfl rfl ⟨rfl, _, rfl, ⟨by decide, by decide⟩, (by omega)⟩
