set_option maxHeartbeats 800000 in
theorem c_X11_variables_4 {σ : zq_S} (hσ : zc_T σ) (v : Int) (q0 : zq_in v) (Uσ : zc_U σ) : zq_C zc_w yX11_variables cX11_variables 3 (some .int) 1 22 284 284 [ZR 0, ZI v] σ (zq_pi (fun r τ => zc_T τ ∧ zc_Fr [(255, 3), (255, 4)] σ τ ∧ ((1 ≤ v ∧ v ≤ zq_shl 1 (σ 3 1) → r = σ 255 4 ∧ τ 255 4 = v ∧ τ 255 3 = 0) ∧ (¬ (1 ≤ v ∧ v ≤ zq_shl 1 (σ 3 1)) → r = -1 ∧ τ 255 4 = σ 255 4 ∧ τ 255 3 = σ 255 3)) ∧ zc_U τ)) := by
  refine zq_C_of (by decide) (Nat.le_refl _) (Nat.le_of_ble_eq_true rfl) [some (ZR 0), some (ZI v), none] rfl (fun V hV => ?_)
  have hFσ := zc_Fr_rf [(255, 3), (255, 4)] σ
  show V 0 [some (ZR 0), some (ZI v), none] [] 284 σ
  refine zr_iload_n (pc := 0) hV dX11_variables_0 rfl rfl ?_
  refine zr_iconst (pc := 1) hV 1 dX11_variables_1 rfl ?_
  refine zr_aload_n (pc := 2) hV dX11_variables_2 rfl rfl ?_
  refine zr_getR (pc := 3) hV 1 3 dX11_variables_3 fX11_19 rfl rfl (zc_k0 zc_s0) (zc_pos zc_s0 rfl) (zc_g0_1 hσ zc_s0) (by decide) ?_
  refine zr_callVp (pc := 6) hV [] (st := [ZI 1, ZI v]) (c_X9_registers_2 (σ := σ) hσ) dX11_variables_6 mX11_153 (zc_k3 zc_s3) (zc_pos zc_s3 rfl) (by decide) (Nat.le_of_ble_eq_true rfl) (Nat.le_refl _) (fun r6 hr6 pr6 => ?_)
  have t1 := zc_g3_1 hσ zc_s3
  refine zr_callSp (pc := 9) hV [ZI v, ZI 1, ZI r6] (st := []) (c_X11_within (σ := σ) v 1 r6 (by omega) (by omega) (by omega)) dX11_variables_9 mX11_89 (by decide) (Nat.le_of_ble_eq_true rfl) (Nat.le_refl _) (fun r9 hr9 pr9 => ?_)
  refine zr_if_ne (pc := 12) hV 17 dX11_variables_12 (by decide) (by omega) (fun c2 => ?_) (fun c2 => ?_)
  · show V 17 [some (ZR 0), some (ZI v), none] [] 284 σ
    refine zr_aload_n (pc := 17) hV dX11_variables_17 rfl rfl ?_
    refine zr_getR (pc := 18) hV 6 255 dX11_variables_18 fX11_57 rfl rfl (zc_k0 zc_s0) (zc_pos zc_s0 rfl) (zc_g0_6 hσ zc_s0) (by decide) ?_
    refine zr_getI (pc := 21) hV 4 dX11_variables_21 fX11_156 rfl rfl (zc_k255 zc_s255) (zc_pos zc_s255 rfl) ?_
    have t3 := zc_g255_4 hσ zc_s255
    refine zr_istore_n (pc := 24) hV [some (ZR 0), some (ZI v), some (ZI (σ 255 4))] dX11_variables_24 rfl (by decide) rfl rfl ?_
    refine zr_aload_n (pc := 25) hV dX11_variables_25 rfl rfl ?_
    refine zr_getR (pc := 26) hV 6 255 dX11_variables_26 fX11_57 rfl rfl (zc_k0 zc_s0) (zc_pos zc_s0 rfl) (zc_g0_6 hσ zc_s0) (by decide) ?_
    refine zr_iload_n (pc := 29) hV dX11_variables_29 rfl rfl ?_
    refine zr_callVv (pc := 30) hV [ZI v] (st := []) (c_X1_useVariables_3 (σ := σ) hσ v (by omega) Uσ) dX11_variables_30 mX11_86 (zc_k255 zc_s255) (zc_pos zc_s255 rfl) (by decide) (Nat.le_of_ble_eq_true rfl) (Nat.le_refl _) (fun σ30 pσ30 => ?_)
    obtain ⟨hσ30, hfσ30, pσ30, Uσ30⟩ := pσ30
    have hFσ30 := zc_Fc hfσ30 rfl hFσ
    have t4 := zc_g255_3 hσ30 zc_s255
    have t5 := zc_g255_4 hσ30 zc_s255
    refine zr_iload_n (pc := 33) hV dX11_variables_33 rfl rfl ?_
    have t6 := zc_g255_3 hσ30 zc_s255
    have t7 := zc_g255_4 hσ30 zc_s255
    exact zr_iret (pc := 34) hV dX11_variables_34 rfl rfl ⟨_, rfl, (by omega), hσ30, hFσ30, (by omega), Uσ30⟩
  · show V 15 [some (ZR 0), some (ZI v), none] [] 284 σ
    refine zr_iconst (pc := 15) hV (-1) dX11_variables_15 rfl ?_
    have t8 := zc_g255_3 hσ zc_s255
    have t9 := zc_g255_4 hσ zc_s255
    exact zr_iret (pc := 16) hV dX11_variables_16 rfl rfl ⟨_, rfl, ⟨by decide, by decide⟩, hσ, hFσ, (by omega), Uσ⟩
