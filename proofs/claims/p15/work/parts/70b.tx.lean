set_option maxHeartbeats 800000 in
theorem c_X11_line_2 {σ : zq_S} (hσ : zc_T σ)   (Uσ : zc_U σ) : zq_C zc_w yX11_line cX11_line 3 (some .int) 3 68 284 284 [ZR 0] σ (zq_pi (fun r τ => zc_T τ ∧ zc_Fr [(1, 1), (1, 2), (1, 3)] σ τ ∧ (τ 1 1 = 0) ∧ zc_U τ)) := by
  refine zq_C_of (by decide) (Nat.le_refl _) (Nat.le_of_ble_eq_true rfl) [some (ZR 0), none, none] rfl (fun V hV => ?_)
  have hFσ := zc_Fr_rf [(1, 1), (1, 2), (1, 3)] σ
  show V 0 [some (ZR 0), none, none] [] 284 σ
  refine zr_aload_n (pc := 0) hV dX11_line_0 rfl rfl ?_
  refine zr_getR (pc := 1) hV 2 132 dX11_line_1 fX11_28 rfl rfl (zc_k0 zc_s0) (zc_pos zc_s0 rfl) (zc_g0_2 hσ zc_s0) (by decide) ?_
  refine zr_callVi (pc := 4) hV [] (st := []) (c_X4_readLine (σ := σ) hσ) dX11_line_4 mX11_215 (zc_k132 zc_s132) (zc_pos zc_s132 rfl) (by decide) (Nat.le_of_ble_eq_true rfl) (Nat.le_refl _) (fun r4 σ4 hr4 pσ4 => ?_)
  obtain ⟨hσ4, hfσ4, pσ4⟩ := pσ4
  have hFσ4 := zc_Fc hfσ4 rfl hFσ
  have Uσ4 : zc_U σ4 := zc_U_fr hfσ4 rfl hσ Uσ
  refine zr_istore_n (pc := 7) hV [some (ZR 0), some (ZI r4), none] dX11_line_7 rfl (by decide) rfl rfl ?_
  refine zr_aload_n (pc := 8) hV dX11_line_8 rfl rfl ?_
  refine zr_getR (pc := 9) hV 0 1 dX11_line_9 fX11_10 rfl rfl (zc_k0 zc_s0) (zc_pos zc_s0 rfl) (zc_g0_0 hσ4 zc_s0) (by decide) ?_
  refine zr_callVp (pc := 12) hV [] (st := []) (c_X8_fault (σ := σ4) hσ4) dX11_line_12 mX11_101 (zc_k1 zc_s1) (zc_pos zc_s1 rfl) (by decide) (Nat.le_of_ble_eq_true rfl) (Nat.le_refl _) (fun r12 hr12 pr12 => ?_)
  refine zr_istore_n (pc := 15) hV [some (ZR 0), some (ZI r4), some (ZI r12)] dX11_line_15 rfl (by decide) rfl rfl ?_
  refine zr_aload_n (pc := 16) hV dX11_line_16 rfl rfl ?_
  refine zr_getR (pc := 17) hV 0 1 dX11_line_17 fX11_10 rfl rfl (zc_k0 zc_s0) (zc_pos zc_s0 rfl) (zc_g0_0 hσ4 zc_s0) (by decide) ?_
  refine zr_callVv (pc := 20) hV [] (st := []) (c_X8_empty_2 (σ := σ4) hσ4) dX11_line_20 mX11_104 (zc_k1 zc_s1) (zc_pos zc_s1 rfl) (by decide) (Nat.le_of_ble_eq_true rfl) (Nat.le_refl _) (fun σ20 pσ20 => ?_)
  obtain ⟨hσ20, hfσ20, pσ20⟩ := pσ20
  have hFσ20 := zc_Fc hfσ20 rfl hFσ4
  have Uσ20 : zc_U σ20 := zc_U_fr hfσ20 rfl hσ4 Uσ4
  have t1 := zc_g1_1 hσ20 zc_s1
  have t2 := zc_g1_2 hσ20 zc_s1
  refine zr_iload_n (pc := 23) hV dX11_line_23 rfl rfl ?_
  refine zr_if_ge (pc := 24) hV 31 dX11_line_24 (by decide) (by omega) (fun c3 => ?_) (fun c3 => ?_)
  · show V 31 [some (ZR 0), some (ZI r4), some (ZI r12)] [] 284 σ20
    refine zr_iload_n (pc := 31) hV dX11_line_31 rfl rfl ?_
    show V 32 [some (ZR 0), some (ZI r4), some (ZI r12)] [ZI r4] 284 σ20
    have t4 := zc_g1_1 hσ20 zc_s1
    exact zr_iret (pc := 32) hV dX11_line_32 rfl rfl ⟨_, rfl, (by omega), hσ20, hFσ20, (by omega), Uσ20⟩
  · show V 27 [some (ZR 0), some (ZI r4), some (ZI r12)] [] 284 σ20
    refine zr_iload_n (pc := 27) hV dX11_line_27 rfl rfl ?_
    refine zr_goto (pc := 28) hV 32 dX11_line_28 (by decide) ?_
    show V 32 [some (ZR 0), some (ZI r4), some (ZI r12)] [ZI r12] 284 σ20
    have t5 := zc_g1_1 hσ20 zc_s1
    exact zr_iret (pc := 32) hV dX11_line_32 rfl rfl ⟨_, rfl, (by omega), hσ20, hFσ20, (by omega), Uσ20⟩
set_option maxHeartbeats 800000 in
theorem c_X11_sum_2 {σ : zq_S} (hσ : zc_T σ)   (Uσ : zc_U σ) : zq_C zc_w yX11_sum cX11_sum 3 (some .int) 5 116 284 284 [ZR 0] σ (zq_pi (fun r τ => zc_T τ ∧ zc_Fr [(1, 1), (1, 2), (1, 3), (255, 1), (255, 2), (255, 3), (256, 5), (256, 6), (256, 9), (257, -1), (258, -1), (259, -1), (260, -1), (262, -1), (263, -1)] σ τ ∧ (τ 1 1 = 0) ∧ zc_U τ)) := by
  refine zq_C_of (by decide) (Nat.le_refl _) (Nat.le_of_ble_eq_true rfl) [some (ZR 0), none, none] rfl (fun V hV => ?_)
  have hFσ := zc_Fr_rf [(1, 1), (1, 2), (1, 3), (255, 1), (255, 2), (255, 3), (256, 5), (256, 6), (256, 9), (257, -1), (258, -1), (259, -1), (260, -1), (262, -1), (263, -1)] σ
  show V 0 [some (ZR 0), none, none] [] 284 σ
  refine zr_aload_n (pc := 0) hV dX11_sum_0 rfl rfl ?_
  refine zr_getR (pc := 1) hV 6 255 dX11_sum_1 fX11_57 rfl rfl (zc_k0 zc_s0) (zc_pos zc_s0 rfl) (zc_g0_6 hσ zc_s0) (by decide) ?_
  refine zr_aload_n (pc := 4) hV dX11_sum_4 rfl rfl ?_
  refine zr_getR (pc := 5) hV 0 1 dX11_sum_5 fX11_10 rfl rfl (zc_k0 zc_s0) (zc_pos zc_s0 rfl) (zc_g0_0 hσ zc_s0) (by decide) ?_
  refine zr_callVi (pc := 8) hV [ZR 1] (st := []) (c_X1_readSum (σ := σ) hσ Uσ) dX11_sum_8 mX11_228 (zc_k255 zc_s255) (zc_pos zc_s255 rfl) (by decide) (Nat.le_of_ble_eq_true rfl) (Nat.le_refl _) (fun r8 σ8 hr8 pσ8 => ?_)
  obtain ⟨hσ8, hfσ8, pσ8, Uσ8⟩ := pσ8
  have hFσ8 := zc_Fc hfσ8 rfl hFσ
  refine zr_istore_n (pc := 11) hV [some (ZR 0), some (ZI r8), none] dX11_sum_11 rfl (by decide) rfl rfl ?_
  refine zr_aload_n (pc := 12) hV dX11_sum_12 rfl rfl ?_
  refine zr_getR (pc := 13) hV 0 1 dX11_sum_13 fX11_10 rfl rfl (zc_k0 zc_s0) (zc_pos zc_s0 rfl) (zc_g0_0 hσ8 zc_s0) (by decide) ?_
  refine zr_callVp (pc := 16) hV [] (st := []) (c_X8_fault (σ := σ8) hσ8) dX11_sum_16 mX11_101 (zc_k1 zc_s1) (zc_pos zc_s1 rfl) (by decide) (Nat.le_of_ble_eq_true rfl) (Nat.le_refl _) (fun r16 hr16 pr16 => ?_)
  refine zr_istore_n (pc := 19) hV [some (ZR 0), some (ZI r8), some (ZI r16)] dX11_sum_19 rfl (by decide) rfl rfl ?_
  refine zr_aload_n (pc := 20) hV dX11_sum_20 rfl rfl ?_
  refine zr_getR (pc := 21) hV 0 1 dX11_sum_21 fX11_10 rfl rfl (zc_k0 zc_s0) (zc_pos zc_s0 rfl) (zc_g0_0 hσ8 zc_s0) (by decide) ?_
  refine zr_callVv (pc := 24) hV [] (st := []) (c_X8_empty_2 (σ := σ8) hσ8) dX11_sum_24 mX11_104 (zc_k1 zc_s1) (zc_pos zc_s1 rfl) (by decide) (Nat.le_of_ble_eq_true rfl) (Nat.le_refl _) (fun σ24 pσ24 => ?_)
  obtain ⟨hσ24, hfσ24, pσ24⟩ := pσ24
  have hFσ24 := zc_Fc hfσ24 rfl hFσ8
  have Uσ24 : zc_U σ24 := zc_U_fr hfσ24 rfl hσ8 Uσ8
  have t1 := zc_g1_1 hσ24 zc_s1
  have t2 := zc_g1_2 hσ24 zc_s1
  refine zr_iload_n (pc := 27) hV dX11_sum_27 rfl rfl ?_
  refine zr_if_eq (pc := 28) hV 44 dX11_sum_28 (by decide) (by omega) (fun c3 => ?_) (fun c3 => ?_)
  · show V 44 [some (ZR 0), some (ZI r8), some (ZI r16)] [] 284 σ24
    refine zr_iload_n (pc := 44) hV dX11_sum_44 rfl rfl ?_
    show V 45 [some (ZR 0), some (ZI r8), some (ZI r16)] [ZI r16] 284 σ24
    have t4 := zc_g1_1 hσ24 zc_s1
    exact zr_iret (pc := 45) hV dX11_sum_45 rfl rfl ⟨_, rfl, (by omega), hσ24, hFσ24, (by omega), Uσ24⟩
  · show V 31 [some (ZR 0), some (ZI r8), some (ZI r16)] [] 284 σ24
    refine zr_aload_n (pc := 31) hV dX11_sum_31 rfl rfl ?_
    refine zr_getR (pc := 32) hV 6 255 dX11_sum_32 fX11_57 rfl rfl (zc_k0 zc_s0) (zc_pos zc_s0 rfl) (zc_g0_6 hσ24 zc_s0) (by decide) ?_
    have t5 : σ24 255 1 = σ8 255 1 := hfσ24 _ _ (zc_out_at zc_s255 rfl)
    obtain ⟨o35, eo35⟩ : ∃ o, σ8 255 1 = o := ⟨_, rfl⟩
    have ko35 : zc_kd o35 = 256 := eo35 ▸ zc_g255_1 hσ8 zc_s255
    have po35 := zc_pos ko35 rfl
    refine zr_getR (pc := 35) hV 1 o35 dX11_sum_35 fX11_232 rfl rfl (zc_k255 zc_s255) (zc_pos zc_s255 rfl) (by omega) (zc_pos ko35 rfl).1 ?_
    refine zr_getI (pc := 38) hV 6 dX11_sum_38 fX11_235 rfl rfl (zc_k256 ko35) (zc_pos ko35 rfl) ?_
    have t6 := zc_g256_6 hσ24 ko35
    have t7 : σ24 o35 6 = σ8 o35 6 := hfσ24 _ _ (zc_out_at ko35 rfl)
    refine zr_goto (pc := 41) hV 45 dX11_sum_41 (by decide) ?_
    show V 45 [some (ZR 0), some (ZI r8), some (ZI r16)] [ZI (σ24 o35 6)] 284 σ24
    have t8 := zc_g1_1 hσ24 zc_s1
    exact zr_iret (pc := 45) hV dX11_sum_45 rfl rfl ⟨_, rfl, (by omega), hσ24, hFσ24, (by omega), Uσ24⟩
