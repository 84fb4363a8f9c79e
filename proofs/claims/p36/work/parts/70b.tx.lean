set_option maxHeartbeats 800000 in
theorem c_X11_line_2 {σ : zq_S} (hσ : zc_T σ)   (Uσ : zc_U σ) : zq_C zc_w yX11_line cX11_line 3 (some .int) 3 68 284 284 [ZR 0] σ (zq_pi (fun r τ => zc_T τ ∧ zc_Fr [(1, 1), (1, 2), (1, 3)] σ τ ∧ (τ 1 1 = 0) ∧ zc_U τ)) := by
  refine zq_C_of (by decide) (Nat.le_refl _) (Nat.le_of_ble_eq_true rfl) [some (ZR 0), none, none] rfl (fun V hV => ?_)
  have hFσ := zc_Fr_rf [(1, 1), (1, 2), (1, 3)] σ
  show V 0 [some (ZR 0), none, none] [] 284 σ
  refine zr_aload_n (pc := 0) hV dX11_line_0 rfl rfl ?_
  refine zr_getR (pc := 1) hV 2 132 dX11_line_1 fX11_28 rfl rfl (zc_k0 zc_s0) (zc_pos zc_s0 rfl) (zc_g0_2 hσ zc_s0) (by decide) ?_
  refine zr_callVi (pc := 4) hV [] (st := []) (c_X4_readLine (σ := σ) hσ) dX11_line_4 mX11_215 (zc_k132 zc_s132) (zc_pos zc_s132 rfl) (by decide) (Nat.le_of_ble_eq_true rfl) (Nat.le_refl _) (fun r4 σ4 hr4 pσ4 => ?_)
  obtain ⟨hσ4, hfσ4, pσ4⟩ := pσ4
  have hFσ4 := zc_Fc hfσ4 rfl hFσ
  have Uσ4 : zc_U σ4 := zc_U_fr hfσ4 rfl hσ Uσ
  refine zr_istore_n (pc := 7) hV [some (ZR 0), some (ZI r4), none] dX11_line_7 rfl (by decide) rfl rfl ?_
  refine zr_aload_n (pc := 8) hV dX11_line_8 rfl rfl ?_
  refine zr_getR (pc := 9) hV 0 1 dX11_line_9 fX11_10 rfl rfl (zc_k0 zc_s0) (zc_pos zc_s0 rfl) (zc_g0_0 hσ4 zc_s0) (by decide) ?_
  refine zr_callVp (pc := 12) hV [] (st := []) (c_X8_fault (σ := σ4) hσ4) dX11_line_12 mX11_101 (zc_k1 zc_s1) (zc_pos zc_s1 rfl) (by decide) (Nat.le_of_ble_eq_true rfl) (Nat.le_refl _) (fun r12 hr12 pr12 => ?_)
  refine zr_istore_n (pc := 15) hV [some (ZR 0), some (ZI r4), some (ZI r12)] dX11_line_15 rfl (by decide) rfl rfl ?_
  refine zr_aload_n (pc := 16) hV dX11_line_16 rfl rfl ?_
  refine zr_getR (pc := 17) hV 0 1 dX11_line_17 fX11_10 rfl rfl (zc_k0 zc_s0) (zc_pos zc_s0 rfl) (zc_g0_0 hσ4 zc_s0) (by decide) ?_
  refine zr_callVv (pc := 20) hV [] (st := []) (c_X8_empty_2 (σ := σ4) hσ4) dX11_line_20 mX11_104 (zc_k1 zc_s1) (zc_pos zc_s1 rfl) (by decide) (Nat.le_of_ble_eq_true rfl) (Nat.le_refl _) (fun σ20 pσ20 => ?_)
  obtain ⟨hσ20, hfσ20, pσ20⟩ := pσ20
  have hFσ20 := zc_Fc hfσ20 rfl hFσ4
  have Uσ20 : zc_U σ20 := zc_U_fr hfσ20 rfl hσ4 Uσ4
  have t1 := zc_g1_1 hσ20 zc_s1
  have t2 := zc_g1_2 hσ20 zc_s1
  refine zr_iload_n (pc := 23) hV dX11_line_23 rfl rfl ?_
  refine zr_if_ge (pc := 24) hV 31 dX11_line_24 (by decide) (by omega) (fun c3 => ?_) (fun c3 => ?_)
  · show V 31 [some (ZR 0), some (ZI r4), some (ZI r12)] [] 284 σ20
    refine zr_iload_n (pc := 31) hV dX11_line_31 rfl rfl ?_
    show V 32 [some (ZR 0), some (ZI r4), some (ZI r12)] [ZI r4] 284 σ20
    have t4 := zc_g1_1 hσ20 zc_s1
    exact zr_iret (pc := 32) hV dX11_line_32 rfl rfl ⟨_, rfl, (by omega), hσ20, hFσ20, (by omega), Uσ20⟩
  · show V 27 [some (ZR 0), some (ZI r4), some (ZI r12)] [] 284 σ20
    refine zr_iload_n (pc := 27) hV dX11_line_27 rfl rfl ?_
    refine zr_goto (pc := 28) hV 32 dX11_line_28 (by decide) ?_
    show V 32 [some (ZR 0), some (ZI r4), some (ZI r12)] [ZI r12] 284 σ20
    have t5 := zc_g1_1 hσ20 zc_s1
    exact zr_iret (pc := 32) hV dX11_line_32 rfl rfl ⟨_, rfl, (by omega), hσ20, hFσ20, (by omega), Uσ20⟩
