set_option maxHeartbeats 800000 in
theorem c_X9_registers_3 {σ : zq_S} (hσ : zc_T σ)   : zq_C zc_w yX9_registers cX9_registers 1 (some .int) 0 0 284 284 [ZR 3] σ (zq_pp σ (fun r => (1 ≤ r ∧ r ≤ 8) ∧ r = zx_p2 (σ 3 1))) := by
  refine zq_C_of (by decide) (Nat.le_refl _) (Nat.le_of_ble_eq_true rfl) [some (ZR 3)] rfl (fun V hV => ?_)
  show V 0 [some (ZR 3)] [] 284 σ
  refine zr_iconst (pc := 0) hV 1 dX9_registers_0 rfl ?_
  refine zr_aload_n (pc := 1) hV dX9_registers_1 rfl rfl ?_
  refine zr_getI (pc := 2) hV 1 dX9_registers_2 fX9_30 rfl rfl (zc_k3 zc_s3) (zc_pos zc_s3 rfl) ?_
  have t1 := zc_g3_1 hσ zc_s3
  refine zr_ishl (pc := 5) hV dX9_registers_5 ?_
  have t2 := zx_shl_one (y := σ 3 1) 3 8 (by decide) (by decide) (by omega)
  exact zr_iret (pc := 6) hV dX9_registers_6 rfl rfl ⟨rfl, _, rfl, (by omega), (by omega)⟩
set_option maxHeartbeats 800000 in
theorem c_X11_count_2 {σ : zq_S} (hσ : zc_T σ) (what : Int) (q0 : zq_in what) (Uσ : zc_U σ) : zq_C zc_w yX11_count cX11_count 2 (some .int) 1 20 284 284 [ZR 0, ZI what] σ (zq_pp σ (fun r => (what = 0 → r = σ 3 3) ∧ (what = 1 → r = zx_p2 (σ 3 1)) ∧ (what = 2 → r = zx_p2 (σ 3 0)) ∧ (what = 3 → r = σ 255 4) ∧ (what = 4 → r = σ 140 12) ∧ (¬ (0 ≤ what ∧ what ≤ 4) → r = -1))) := by
  refine zq_C_of (by decide) (Nat.le_refl _) (Nat.le_of_ble_eq_true rfl) [some (ZR 0), some (ZI what)] rfl (fun V hV => ?_)
  show V 0 [some (ZR 0), some (ZI what)] [] 284 σ
  refine zr_iload_n (pc := 0) hV dX11_count_0 rfl rfl ?_
  by_cases c1 : what = 0
  · refine zr_eqI (V := V) 0 c1 ?_
    refine zr_tableIn (pc := 1) hV 36 dX11_count_1 ⟨by decide, by decide⟩ (by decide) (by decide) rfl (by decide) ?_
    show V 36 [some (ZR 0), some (ZI what)] [] 284 σ
    refine zr_aload_n (pc := 36) hV dX11_count_36 rfl rfl ?_
    refine zr_getR (pc := 37) hV 1 3 dX11_count_37 fX11_19 rfl rfl (zc_k0 zc_s0) (zc_pos zc_s0 rfl) (zc_g0_1 hσ zc_s0) (by decide) ?_
    refine zr_getI (pc := 40) hV 3 dX11_count_40 fX11_150 rfl rfl (zc_k3 zc_s3) (zc_pos zc_s3 rfl) ?_
    have t2 := zc_g3_3 hσ zc_s3
    exact zr_iret (pc := 43) hV dX11_count_43 rfl rfl ⟨rfl, _, rfl, (by omega), (by omega)⟩
  by_cases c3 : what = 1
  · refine zr_eqI (V := V) 1 c3 ?_
    refine zr_tableIn (pc := 1) hV 44 dX11_count_1 ⟨by decide, by decide⟩ (by decide) (by decide) rfl (by decide) ?_
    show V 44 [some (ZR 0), some (ZI what)] [] 284 σ
    refine zr_aload_n (pc := 44) hV dX11_count_44 rfl rfl ?_
    refine zr_getR (pc := 45) hV 1 3 dX11_count_45 fX11_19 rfl rfl (zc_k0 zc_s0) (zc_pos zc_s0 rfl) (zc_g0_1 hσ zc_s0) (by decide) ?_
    refine zr_callVp (pc := 48) hV [] (st := []) (c_X9_registers_3 (σ := σ) hσ) dX11_count_48 mX11_153 (zc_k3 zc_s3) (zc_pos zc_s3 rfl) (by decide) (Nat.le_of_ble_eq_true rfl) (Nat.le_refl _) (fun r48 hr48 pr48 => ?_)
    have t4 := zc_g3_1 hσ zc_s3
    exact zr_iret (pc := 51) hV dX11_count_51 rfl rfl ⟨rfl, _, rfl, (by omega), (by omega)⟩
  by_cases c5 : what = 2
  · refine zr_eqI (V := V) 2 c5 ?_
    refine zr_tableIn (pc := 1) hV 52 dX11_count_1 ⟨by decide, by decide⟩ (by decide) (by decide) rfl (by decide) ?_
    show V 52 [some (ZR 0), some (ZI what)] [] 284 σ
    refine zr_aload_n (pc := 52) hV dX11_count_52 rfl rfl ?_
    refine zr_getR (pc := 53) hV 1 3 dX11_count_53 fX11_19 rfl rfl (zc_k0 zc_s0) (zc_pos zc_s0 rfl) (zc_g0_1 hσ zc_s0) (by decide) ?_
    refine zr_callVp (pc := 56) hV [] (st := []) (c_X9_wordMask_3 (σ := σ) hσ) dX11_count_56 mX11_79 (zc_k3 zc_s3) (zc_pos zc_s3 rfl) (by decide) (Nat.le_of_ble_eq_true rfl) (Nat.le_refl _) (fun r56 hr56 pr56 => ?_)
    have t6 := zc_g3_0 hσ zc_s3
    refine zr_iconst (pc := 59) hV 1 dX11_count_59 rfl ?_
    refine zr_iadd (pc := 60) hV dX11_count_60 ?_
    exact zr_iret (pc := 61) hV dX11_count_61 rfl rfl ⟨rfl, _, rfl, (by omega), (by omega)⟩
  by_cases c7 : what = 3
  · refine zr_eqI (V := V) 3 c7 ?_
    refine zr_tableIn (pc := 1) hV 62 dX11_count_1 ⟨by decide, by decide⟩ (by decide) (by decide) rfl (by decide) ?_
    show V 62 [some (ZR 0), some (ZI what)] [] 284 σ
    refine zr_aload_n (pc := 62) hV dX11_count_62 rfl rfl ?_
    refine zr_getR (pc := 63) hV 6 255 dX11_count_63 fX11_57 rfl rfl (zc_k0 zc_s0) (zc_pos zc_s0 rfl) (zc_g0_6 hσ zc_s0) (by decide) ?_
    refine zr_getI (pc := 66) hV 4 dX11_count_66 fX11_156 rfl rfl (zc_k255 zc_s255) (zc_pos zc_s255 rfl) ?_
    have t8 := zc_g255_4 hσ zc_s255
    exact zr_iret (pc := 69) hV dX11_count_69 rfl rfl ⟨rfl, _, rfl, (by omega), (by omega)⟩
  by_cases c9 : what = 4
  · refine zr_eqI (V := V) 4 c9 ?_
    refine zr_tableIn (pc := 1) hV 70 dX11_count_1 ⟨by decide, by decide⟩ (by decide) (by decide) rfl (by decide) ?_
    show V 70 [some (ZR 0), some (ZI what)] [] 284 σ
    refine zr_aload_n (pc := 70) hV dX11_count_70 rfl rfl ?_
    refine zr_getR (pc := 71) hV 5 140 dX11_count_71 fX11_48 rfl rfl (zc_k0 zc_s0) (zc_pos zc_s0 rfl) (zc_g0_5 hσ zc_s0) (by decide) ?_
    refine zr_getI (pc := 74) hV 12 dX11_count_74 fX11_159 rfl rfl (zc_k140 zc_s140) (zc_pos zc_s140 rfl) ?_
    have t10 := zc_g140_12 hσ zc_s140
    exact zr_iret (pc := 77) hV dX11_count_77 rfl rfl ⟨rfl, _, rfl, (by omega), (by omega)⟩
  refine zr_tableOut (pc := 1) hV 78 dX11_count_1 (by omega) (by omega) (by decide) ?_
  show V 78 [some (ZR 0), some (ZI what)] [] 284 σ
  refine zr_iconst (pc := 78) hV (-1) dX11_count_78 rfl ?_
  exact zr_iret (pc := 79) hV dX11_count_79 rfl rfl ⟨rfl, _, rfl, ⟨by decide, by decide⟩, (by omega)⟩
