set_option maxHeartbeats 800000 in
theorem c_X8_next_2 {σ : zq_S} (hσ : zc_T σ)   : zq_C zc_w yX8_next cX8_next 1 (some .int) 0 0 284 284 [ZR 1] σ (zq_pi (fun r τ => zc_T τ ∧ zc_Fr [(1, 2)] σ τ ∧ (((-1) ≤ r ∧ r ≤ 255) ∧ τ 1 2 = zt_sk (σ 2) (σ 1 1) (σ 1 2) ∧ r = zt_nx (σ 2) (σ 1 1) (σ 1 2)))) := by
  refine zq_C_of (by decide) (Nat.le_refl _) (Nat.le_of_ble_eq_true rfl) [some (ZR 1)] rfl (fun V hV => ?_)
  have hFσ := zc_Fr_rf [(1, 2)] σ
  have L0 : ∀ (fuel : Nat) (σ_0 : zq_S), (zc_T σ_0) → (zc_Fr [(1, 2)] σ σ_0) → (zt_sk (σ 2) (σ 1 1) (σ_0 1 2) = zt_sk (σ 2) (σ 1 1) (σ 1 2)) → 80 - σ_0 1 2 < (fuel : Int) → V 0 [some (ZR 1)] [] 284 σ_0 := by
    intro fuel
    induction fuel with
    | zero =>
      intro σ_0 hσ_0 hFσ_0 hi0_0 hm0
      have t1 := zc_g1_2 hσ_0 zc_s1
      exfalso; omega
    | succ fuel ih =>
      intro σ_0 hσ_0 hFσ_0 hi0_0 hm0
      have ih0 := ih
      show V 0 [some (ZR 1)] [] 284 σ_0
      refine zr_aload_n (pc := 0) hV dX8_next_0 rfl rfl ?_
      refine zr_getI (pc := 1) hV 2 dX8_next_1 fX8_19 rfl rfl (zc_k1 zc_s1) (zc_pos zc_s1 rfl) ?_
      have t2 := zc_g1_2 hσ_0 zc_s1
      refine zr_aload_n (pc := 4) hV dX8_next_4 rfl rfl ?_
      refine zr_getI (pc := 5) hV 1 dX8_next_5 fX8_15 rfl rfl (zc_k1 zc_s1) (zc_pos zc_s1 rfl) ?_
      have t3 := zc_g1_1 hσ_0 zc_s1
      have t4 : σ_0 1 1 = σ 1 1 := hFσ_0 _ _ (zc_out_at zc_s1 rfl)
      refine zr_icmp_ge (pc := 8) hV 38 dX8_next_8 (by decide) (by omega) (by omega) (fun c5 => ?_) (fun c5 => ?_)
      · show V 38 [some (ZR 1)] [] 284 σ_0
        have zs : zt_sk (σ 2) (σ 1 1) (σ_0 1 2) = σ_0 1 2 := zt_sk_n (by omega)
        refine zr_aload_n (pc := 38) hV dX8_next_38 rfl rfl ?_
        refine zr_getI (pc := 39) hV 2 dX8_next_39 fX8_19 rfl rfl (zc_k1 zc_s1) (zc_pos zc_s1 rfl) ?_
        have t6 := zc_g1_2 hσ_0 zc_s1
        refine zr_aload_n (pc := 42) hV dX8_next_42 rfl rfl ?_
        refine zr_getI (pc := 43) hV 1 dX8_next_43 fX8_15 rfl rfl (zc_k1 zc_s1) (zc_pos zc_s1 rfl) ?_
        have t7 := zc_g1_1 hσ_0 zc_s1
        have t8 : σ_0 1 1 = σ 1 1 := hFσ_0 _ _ (zc_out_at zc_s1 rfl)
        refine zr_icmp_ge (pc := 46) hV 61 dX8_next_46 (by decide) (by omega) (by omega) (fun c9 => ?_) (fun c9 => ?_)
        · show V 61 [some (ZR 1)] [] 284 σ_0
          refine zr_iconst (pc := 61) hV (-1) dX8_next_61 rfl ?_
          show V 62 [some (ZR 1)] [ZI (-1)] 284 σ_0
          have t10 := zc_g1_2 hσ_0 zc_s1
          exact zr_iret (pc := 62) hV dX8_next_62 rfl rfl ⟨_, rfl, ⟨by decide, by decide⟩, hσ_0, hFσ_0, ⟨by omega, ⟨by omega, (zt_nx_n (by omega)).symm⟩⟩⟩
        · show V 49 [some (ZR 1)] [] 284 σ_0
          refine zr_aload_n (pc := 49) hV dX8_next_49 rfl rfl ?_
          refine zr_getR (pc := 50) hV 0 2 dX8_next_50 fX8_11 rfl rfl (zc_k1 zc_s1) (zc_pos zc_s1 rfl) (zc_g1_0 hσ_0 zc_s1) (by decide) ?_
          refine zr_aload_n (pc := 53) hV dX8_next_53 rfl rfl ?_
          refine zr_getI (pc := 54) hV 2 dX8_next_54 fX8_19 rfl rfl (zc_k1 zc_s1) (zc_pos zc_s1 rfl) ?_
          have t11 := zc_g1_2 hσ_0 zc_s1
          refine zr_iald (pc := 57) hV dX8_next_57 (zc_k2 zc_s2) (zc_pos zc_s2 rfl) rfl (by omega) ?_
          have t12 := zc_ga2 hσ_0 zc_s2 (σ_0 1 2)
          have t13 : σ_0 2 (σ_0 1 2) = σ 2 (σ_0 1 2) := hFσ_0 _ _ (zc_out_ar zc_s2 rfl)
          refine zr_goto (pc := 58) hV 62 dX8_next_58 (by decide) ?_
          show V 62 [some (ZR 1)] [ZI (σ_0 2 (σ_0 1 2))] 284 σ_0
          have t14 := zc_g1_2 hσ_0 zc_s1
          exact zr_iret (pc := 62) hV dX8_next_62 rfl rfl ⟨_, rfl, (by omega), hσ_0, hFσ_0, ⟨by omega, ⟨by omega, by rw [zt_nx_y (by omega), ← hi0_0, zs]; omega⟩⟩⟩
      · show V 11 [some (ZR 1)] [] 284 σ_0
        refine zr_aload_n (pc := 11) hV dX8_next_11 rfl rfl ?_
        refine zr_getR (pc := 12) hV 0 2 dX8_next_12 fX8_11 rfl rfl (zc_k1 zc_s1) (zc_pos zc_s1 rfl) (zc_g1_0 hσ_0 zc_s1) (by decide) ?_
        refine zr_aload_n (pc := 15) hV dX8_next_15 rfl rfl ?_
        refine zr_getI (pc := 16) hV 2 dX8_next_16 fX8_19 rfl rfl (zc_k1 zc_s1) (zc_pos zc_s1 rfl) ?_
        have t15 := zc_g1_2 hσ_0 zc_s1
        refine zr_iald (pc := 19) hV dX8_next_19 (zc_k2 zc_s2) (zc_pos zc_s2 rfl) rfl (by omega) ?_
        have t16 := zc_ga2 hσ_0 zc_s2 (σ_0 1 2)
        have t17 : σ_0 2 (σ_0 1 2) = σ 2 (σ_0 1 2) := hFσ_0 _ _ (zc_out_ar zc_s2 rfl)
        refine zr_bipush (pc := 20) hV 32 dX8_next_20 (by decide) ?_
        refine zr_icmp_ne (pc := 22) hV 38 dX8_next_22 (by decide) (by omega) ⟨by decide, by decide⟩ (fun c18 => ?_) (fun c18 => ?_)
        · show V 38 [some (ZR 1)] [] 284 σ_0
          have zs : zt_sk (σ 2) (σ 1 1) (σ_0 1 2) = σ_0 1 2 := zt_sk_n (by omega)
          refine zr_aload_n (pc := 38) hV dX8_next_38 rfl rfl ?_
          refine zr_getI (pc := 39) hV 2 dX8_next_39 fX8_19 rfl rfl (zc_k1 zc_s1) (zc_pos zc_s1 rfl) ?_
          have t19 := zc_g1_2 hσ_0 zc_s1
          refine zr_aload_n (pc := 42) hV dX8_next_42 rfl rfl ?_
          refine zr_getI (pc := 43) hV 1 dX8_next_43 fX8_15 rfl rfl (zc_k1 zc_s1) (zc_pos zc_s1 rfl) ?_
          have t20 := zc_g1_1 hσ_0 zc_s1
          have t21 : σ_0 1 1 = σ 1 1 := hFσ_0 _ _ (zc_out_at zc_s1 rfl)
          refine zr_icmp_ge (pc := 46) hV 61 dX8_next_46 (by decide) (by omega) (by omega) (fun c22 => ?_) (fun c22 => ?_)
          · show V 61 [some (ZR 1)] [] 284 σ_0
            refine zr_iconst (pc := 61) hV (-1) dX8_next_61 rfl ?_
            show V 62 [some (ZR 1)] [ZI (-1)] 284 σ_0
            have t23 := zc_g1_2 hσ_0 zc_s1
            exact zr_iret (pc := 62) hV dX8_next_62 rfl rfl ⟨_, rfl, ⟨by decide, by decide⟩, hσ_0, hFσ_0, ⟨by omega, ⟨by omega, (zt_nx_n (by omega)).symm⟩⟩⟩
          · show V 49 [some (ZR 1)] [] 284 σ_0
            refine zr_aload_n (pc := 49) hV dX8_next_49 rfl rfl ?_
            refine zr_getR (pc := 50) hV 0 2 dX8_next_50 fX8_11 rfl rfl (zc_k1 zc_s1) (zc_pos zc_s1 rfl) (zc_g1_0 hσ_0 zc_s1) (by decide) ?_
            refine zr_aload_n (pc := 53) hV dX8_next_53 rfl rfl ?_
            refine zr_getI (pc := 54) hV 2 dX8_next_54 fX8_19 rfl rfl (zc_k1 zc_s1) (zc_pos zc_s1 rfl) ?_
            have t24 := zc_g1_2 hσ_0 zc_s1
            refine zr_iald (pc := 57) hV dX8_next_57 (zc_k2 zc_s2) (zc_pos zc_s2 rfl) rfl (by omega) ?_
            have t25 := zc_ga2 hσ_0 zc_s2 (σ_0 1 2)
            have t26 : σ_0 2 (σ_0 1 2) = σ 2 (σ_0 1 2) := hFσ_0 _ _ (zc_out_ar zc_s2 rfl)
            refine zr_goto (pc := 58) hV 62 dX8_next_58 (by decide) ?_
            show V 62 [some (ZR 1)] [ZI (σ_0 2 (σ_0 1 2))] 284 σ_0
            have t27 := zc_g1_2 hσ_0 zc_s1
            exact zr_iret (pc := 62) hV dX8_next_62 rfl rfl ⟨_, rfl, (by omega), hσ_0, hFσ_0, ⟨by omega, ⟨by omega, by rw [zt_nx_y (by omega), ← hi0_0, zs]; omega⟩⟩⟩
        · show V 25 [some (ZR 1)] [] 284 σ_0
          refine zr_aload_n (pc := 25) hV dX8_next_25 rfl rfl ?_
          refine zr_dup (pc := 26) hV dX8_next_26 (fun _ => rfl) ?_
          refine zr_getI (pc := 27) hV 2 dX8_next_27 fX8_19 rfl rfl (zc_k1 zc_s1) (zc_pos zc_s1 rfl) ?_
          have t28 := zc_g1_2 hσ_0 zc_s1
          refine zr_iconst (pc := 30) hV 1 dX8_next_30 rfl ?_
          refine zr_iadd (pc := 31) hV dX8_next_31 ?_
          refine zr_putI (pc := 32) hV 2 dX8_next_32 fX8_19 rfl rfl rfl (zc_k1 zc_s1) (zc_pos zc_s1 rfl) (fun σ32 eσ32 => ?_)
          have hσ32 : zc_T σ32 := zc_u1_2 eσ32 hσ_0 zc_s1 (by omega)
          have hFσ32 := zc_Fw eσ32 zc_s1 rfl hFσ_0
          refine zr_goto (pc := 35) hV 0 dX8_next_35 (by decide) ?_
          have t29 := zc_g1_2 hσ32 zc_s1
          have t30 : σ32 1 2 = (σ_0 1 2) + 1 := by rw [eσ32]; exact zq_up_same _ _ _ _
          have t31 := zc_g1_2 hσ32 zc_s1
          have t32 : σ32 1 2 = (σ_0 1 2) + 1 := by rw [eσ32]; exact zq_up_same _ _ _ _
          exact ih0 σ32 hσ32 hFσ32 (by rw [show σ32 1 2 = σ_0 1 2 + 1 by omega, ← zt_sk_y (t := σ 2) (n := σ 1 1) (a := σ_0 1 2) ⟨by omega, by omega⟩]; exact hi0_0) (by omega)
  have t33 := zc_g1_2 hσ zc_s1
  have t34 := zc_g1_2 hσ zc_s1
  exact L0 (80 - σ 1 2 + 1 : Int).toNat σ hσ hFσ rfl (by omega)
set_option maxHeartbeats 800000 in
theorem c_X8_pass_2 {σ : zq_S} (hσ : zc_T σ)   : zq_C zc_w yX8_pass cX8_pass 1 (none) 0 0 284 284 [ZR 1] σ (zq_pv (fun τ => zc_T τ ∧ zc_Fr [(1, 2)] σ τ ∧ ((σ 1 2 < σ 1 1 → τ 1 2 = σ 1 2 + 1) ∧ (¬ (σ 1 2 < σ 1 1) → τ 1 2 = σ 1 2)))) := by
  refine zq_C_of (by decide) (Nat.le_refl _) (Nat.le_of_ble_eq_true rfl) [some (ZR 1)] rfl (fun V hV => ?_)
  have hFσ := zc_Fr_rf [(1, 2)] σ
  show V 0 [some (ZR 1)] [] 284 σ
  refine zr_aload_n (pc := 0) hV dX8_pass_0 rfl rfl ?_
  refine zr_getI (pc := 1) hV 2 dX8_pass_1 fX8_19 rfl rfl (zc_k1 zc_s1) (zc_pos zc_s1 rfl) ?_
  have t1 := zc_g1_2 hσ zc_s1
  refine zr_aload_n (pc := 4) hV dX8_pass_4 rfl rfl ?_
  refine zr_getI (pc := 5) hV 1 dX8_pass_5 fX8_15 rfl rfl (zc_k1 zc_s1) (zc_pos zc_s1 rfl) ?_
  have t2 := zc_g1_1 hσ zc_s1
  refine zr_icmp_ge (pc := 8) hV 21 dX8_pass_8 (by decide) (by omega) (by omega) (fun c3 => ?_) (fun c3 => ?_)
  · show V 21 [some (ZR 1)] [] 284 σ
    have t4 := zc_g1_2 hσ zc_s1
    exact zr_vret (pc := 21) hV dX8_pass_21 rfl rfl ⟨rfl, hσ, hFσ, (by omega)⟩
  · show V 11 [some (ZR 1)] [] 284 σ
    refine zr_aload_n (pc := 11) hV dX8_pass_11 rfl rfl ?_
    refine zr_dup (pc := 12) hV dX8_pass_12 (fun _ => rfl) ?_
    refine zr_getI (pc := 13) hV 2 dX8_pass_13 fX8_19 rfl rfl (zc_k1 zc_s1) (zc_pos zc_s1 rfl) ?_
    have t5 := zc_g1_2 hσ zc_s1
    refine zr_iconst (pc := 16) hV 1 dX8_pass_16 rfl ?_
    refine zr_iadd (pc := 17) hV dX8_pass_17 ?_
    refine zr_putI (pc := 18) hV 2 dX8_pass_18 fX8_19 rfl rfl rfl (zc_k1 zc_s1) (zc_pos zc_s1 rfl) (fun σ18 eσ18 => ?_)
    have hσ18 : zc_T σ18 := zc_u1_2 eσ18 hσ zc_s1 (by omega)
    have hFσ18 := zc_Fw eσ18 zc_s1 rfl hFσ
    show V 21 [some (ZR 1)] [] 284 σ18
    have t6 := zc_g1_2 hσ18 zc_s1
    have t7 : σ18 1 2 = (σ 1 2) + 1 := by rw [eσ18]; exact zq_up_same _ _ _ _
    exact zr_vret (pc := 21) hV dX8_pass_21 rfl rfl ⟨rfl, hσ18, hFσ18, (by omega)⟩
set_option maxHeartbeats 800000 in
theorem c_X8_takes_2 {σ : zq_S} (hσ : zc_T σ) (wanted : Int) (q0 : 0 ≤ wanted ∧ wanted ≤ 127) : zq_C zc_w yX8_takes cX8_takes 2 (some .boolean) 1 20 284 284 [ZR 1, ZI wanted] σ (zq_pi (fun r τ => zc_T τ ∧ zc_Fr [(1, 2)] σ τ ∧ ((0 ≤ r ∧ r ≤ 1) ∧ r = zt_tkR (σ 2) (σ 1 1) wanted (σ 1 2) ∧ τ 1 2 = zt_tkA (σ 2) (σ 1 1) wanted (σ 1 2)))) := by
  refine zq_C_of (by decide) (Nat.le_refl _) (Nat.le_of_ble_eq_true rfl) [some (ZR 1), some (ZI wanted)] rfl (fun V hV => ?_)
  have hFσ := zc_Fr_rf [(1, 2)] σ
  show V 0 [some (ZR 1), some (ZI wanted)] [] 284 σ
  refine zr_aload_n (pc := 0) hV dX8_takes_0 rfl rfl ?_
  refine zr_callVi (pc := 1) hV [] (st := []) (c_X8_next_2 (σ := σ) hσ) dX8_takes_1 mX8_22 (zc_k1 zc_s1) (zc_pos zc_s1 rfl) (by decide) (Nat.le_of_ble_eq_true rfl) (Nat.le_refl _) (fun r1 σ1 hr1 pσ1 => ?_)
  obtain ⟨hσ1, hfσ1, pσ1⟩ := pσ1
  have hFσ1 := zc_Fc hfσ1 rfl hFσ
  have t1 := zc_g1_1 hσ zc_s1
  have t2 := zc_g1_2 hσ zc_s1
  have t3 := zc_g1_2 hσ1 zc_s1
  refine zr_iload_n (pc := 4) hV dX8_takes_4 rfl rfl ?_
  refine zr_icmp_eq (pc := 5) hV 10 dX8_takes_5 (by decide) (by omega) (by omega) (fun c4 => ?_) (fun c4 => ?_)
  · show V 10 [some (ZR 1), some (ZI wanted)] [] 284 σ1
    have zi := zt_nx_in (t := σ 2) (n := σ 1 1) (a := σ 1 2) (by omega)
    refine zr_aload_n (pc := 10) hV dX8_takes_10 rfl rfl ?_
    refine zr_callVv (pc := 11) hV [] (st := []) (c_X8_pass_2 (σ := σ1) hσ1) dX8_takes_11 mX8_26 (zc_k1 zc_s1) (zc_pos zc_s1 rfl) (by decide) (Nat.le_of_ble_eq_true rfl) (Nat.le_refl _) (fun σ11 pσ11 => ?_)
    obtain ⟨hσ11, hfσ11, pσ11⟩ := pσ11
    have hFσ11 := zc_Fc hfσ11 rfl hFσ1
    have t5 := zc_g1_1 hσ1 zc_s1
    have t6 : σ1 1 1 = σ 1 1 := hfσ1 _ _ (zc_out_at zc_s1 rfl)
    have t7 := zc_g1_2 hσ1 zc_s1
    have t8 := zc_g1_2 hσ11 zc_s1
    refine zr_iconst (pc := 14) hV 1 dX8_takes_14 rfl ?_
    have t9 := zc_g1_2 hσ11 zc_s1
    exact zr_zret (pc := 15) hV dX8_takes_15 rfl rfl (by omega) ⟨_, rfl, ⟨by decide, by decide⟩, hσ11, hFσ11, ⟨by omega, ⟨by rw [zt_tkR_y (by omega)], by rw [zt_tkA_y (by omega)]; omega⟩⟩⟩
  · show V 8 [some (ZR 1), some (ZI wanted)] [] 284 σ1
    refine zr_iconst (pc := 8) hV 0 dX8_takes_8 rfl ?_
    have t10 := zc_g1_2 hσ1 zc_s1
    exact zr_zret (pc := 9) hV dX8_takes_9 rfl rfl (by omega) ⟨_, rfl, ⟨by decide, by decide⟩, hσ1, hFσ1, ⟨by omega, ⟨by rw [zt_tkR_n (by omega)], by rw [zt_tkA_n (by omega)]; omega⟩⟩⟩
set_option maxHeartbeats 800000 in
theorem c_X8_rewind_2 {σ : zq_S} (hσ : zc_T σ)   : zq_C zc_w yX8_rewind cX8_rewind 1 (none) 0 0 284 284 [ZR 1] σ (zq_pv (fun τ => zc_T τ ∧ zc_Fr [(1, 2)] σ τ ∧ (τ 1 2 = 0))) := by
  refine zq_C_of (by decide) (Nat.le_refl _) (Nat.le_of_ble_eq_true rfl) [some (ZR 1)] rfl (fun V hV => ?_)
  have hFσ := zc_Fr_rf [(1, 2)] σ
  show V 0 [some (ZR 1)] [] 284 σ
  refine zr_aload_n (pc := 0) hV dX8_rewind_0 rfl rfl ?_
  refine zr_iconst (pc := 1) hV 0 dX8_rewind_1 rfl ?_
  refine zr_putI (pc := 2) hV 2 dX8_rewind_2 fX8_19 rfl rfl rfl (zc_k1 zc_s1) (zc_pos zc_s1 rfl) (fun σ2 eσ2 => ?_)
  have hσ2 : zc_T σ2 := zc_u1_2 eσ2 hσ zc_s1 (by omega)
  have hFσ2 := zc_Fw eσ2 zc_s1 rfl hFσ
  have t1 := zc_g1_2 hσ2 zc_s1
  have t2 : σ2 1 2 = 0 := by rw [eσ2]; exact zq_up_same _ _ _ _
  exact zr_vret (pc := 5) hV dX8_rewind_5 rfl rfl ⟨rfl, hσ2, hFσ2, (by omega)⟩
set_option maxHeartbeats 800000 in
theorem c_X8_empty_2 {σ : zq_S} (hσ : zc_T σ)   : zq_C zc_w yX8_empty cX8_empty 1 (none) 0 0 284 284 [ZR 1] σ (zq_pv (fun τ => zc_T τ ∧ zc_Fr [(1, 1), (1, 2)] σ τ ∧ (τ 1 1 = 0 ∧ τ 1 2 = 0))) := by
  refine zq_C_of (by decide) (Nat.le_refl _) (Nat.le_of_ble_eq_true rfl) [some (ZR 1)] rfl (fun V hV => ?_)
  have hFσ := zc_Fr_rf [(1, 1), (1, 2)] σ
  show V 0 [some (ZR 1)] [] 284 σ
  refine zr_aload_n (pc := 0) hV dX8_empty_0 rfl rfl ?_
  refine zr_iconst (pc := 1) hV 0 dX8_empty_1 rfl ?_
  refine zr_putI (pc := 2) hV 1 dX8_empty_2 fX8_15 rfl rfl rfl (zc_k1 zc_s1) (zc_pos zc_s1 rfl) (fun σ2 eσ2 => ?_)
  have hσ2 : zc_T σ2 := zc_u1_1 eσ2 hσ zc_s1 (by omega)
  have hFσ2 := zc_Fw eσ2 zc_s1 rfl hFσ
  refine zr_aload_n (pc := 5) hV dX8_empty_5 rfl rfl ?_
  refine zr_iconst (pc := 6) hV 0 dX8_empty_6 rfl ?_
  refine zr_putI (pc := 7) hV 2 dX8_empty_7 fX8_19 rfl rfl rfl (zc_k1 zc_s1) (zc_pos zc_s1 rfl) (fun σ7 eσ7 => ?_)
  have hσ7 : zc_T σ7 := zc_u1_2 eσ7 hσ2 zc_s1 (by omega)
  have hFσ7 := zc_Fw eσ7 zc_s1 rfl hFσ2
  have t1 := zc_g1_1 hσ7 zc_s1
  have t2 : σ7 1 1 = σ2 1 1 := by rw [eσ7]; exact zq_up_ne (by omega)
  have t3 : σ2 1 1 = 0 := by rw [eσ2]; exact zq_up_same _ _ _ _
  have t4 := zc_g1_2 hσ7 zc_s1
  have t5 : σ7 1 2 = 0 := by rw [eσ7]; exact zq_up_same _ _ _ _
  exact zr_vret (pc := 10) hV dX8_empty_10 rfl rfl ⟨rfl, hσ7, hFσ7, (by omega)⟩
set_option maxHeartbeats 800000 in
theorem c_X8_fault_2 {σ : zq_S} (hσ : zc_T σ)   : zq_C zc_w yX8_fault cX8_fault 1 (some .int) 0 0 284 284 [ZR 1] σ (zq_pp σ (fun r => r = -20 - σ 1 2)) := by
  refine zq_C_of (by decide) (Nat.le_refl _) (Nat.le_of_ble_eq_true rfl) [some (ZR 1)] rfl (fun V hV => ?_)
  show V 0 [some (ZR 1)] [] 284 σ
  refine zr_bipush (pc := 0) hV (-20) dX8_fault_0 (by decide) ?_
  refine zr_aload_n (pc := 2) hV dX8_fault_2 rfl rfl ?_
  refine zr_getI (pc := 3) hV 2 dX8_fault_3 fX8_19 rfl rfl (zc_k1 zc_s1) (zc_pos zc_s1 rfl) ?_
  have t1 := zc_g1_2 hσ zc_s1
  refine zr_isub (pc := 6) hV dX8_fault_6 ?_
  exact zr_iret (pc := 7) hV dX8_fault_7 rfl rfl ⟨rfl, _, rfl, (by omega), (by omega)⟩
set_option maxHeartbeats 800000 in
theorem c_X8_blameWord_2 {σ : zq_S} (hσ : zc_T σ)   : zq_C zc_w yX8_blameWord cX8_blameWord 1 (none) 0 0 284 284 [ZR 1] σ (zq_pv (fun τ => zc_T τ ∧ zc_Fr [(1, 2)] σ τ ∧ (τ 1 2 = σ 1 3))) := by
  refine zq_C_of (by decide) (Nat.le_refl _) (Nat.le_of_ble_eq_true rfl) [some (ZR 1)] rfl (fun V hV => ?_)
  have hFσ := zc_Fr_rf [(1, 2)] σ
  show V 0 [some (ZR 1)] [] 284 σ
  refine zr_aload_n (pc := 0) hV dX8_blameWord_0 rfl rfl ?_
  refine zr_aload_n (pc := 1) hV dX8_blameWord_1 rfl rfl ?_
  refine zr_getI (pc := 2) hV 3 dX8_blameWord_2 fX8_29 rfl rfl (zc_k1 zc_s1) (zc_pos zc_s1 rfl) ?_
  have t1 := zc_g1_3 hσ zc_s1
  refine zr_putI (pc := 5) hV 2 dX8_blameWord_5 fX8_19 rfl rfl rfl (zc_k1 zc_s1) (zc_pos zc_s1 rfl) (fun σ5 eσ5 => ?_)
  have hσ5 : zc_T σ5 := zc_u1_2 eσ5 hσ zc_s1 (by omega)
  have hFσ5 := zc_Fw eσ5 zc_s1 rfl hFσ
  have t2 := zc_g1_2 hσ5 zc_s1
  have t3 : σ5 1 2 = σ 1 3 := by rw [eσ5]; exact zq_up_same _ _ _ _
  exact zr_vret (pc := 8) hV dX8_blameWord_8 rfl rfl ⟨rfl, hσ5, hFσ5, (by omega)⟩
set_option maxHeartbeats 800000 in
theorem c_X8_takeName_2 {σ : zq_S} (hσ : zc_T σ)   : zq_C zc_w yX8_takeName cX8_takeName 2 (some .int) 1 20 284 284 [ZR 1] σ (zq_pi (fun r τ => zc_T τ ∧ zc_Fr [(1, 2), (1, 3)] σ τ ∧ ((0 ≤ r ∧ r ≤ 8026746) ∧ τ 1 3 = (zt_sk (σ 2) (σ 1 1) (σ 1 2)) ∧ τ 1 2 = (zt_sk (σ 2) (σ 1 1) (σ 1 2)) + (zt_nl (σ 2) (σ 1 1) (zt_sk (σ 2) (σ 1 1) (σ 1 2))) ∧ r = zt_na (σ 2) (zt_sk (σ 2) (σ 1 1) (σ 1 2)) (zt_nl (σ 2) (σ 1 1) (zt_sk (σ 2) (σ 1 1) (σ 1 2)))))) := by
  refine zq_C_of (by decide) (Nat.le_refl _) (Nat.le_of_ble_eq_true rfl) [some (ZR 1), none] rfl (fun V hV => ?_)
  have hFσ := zc_Fr_rf [(1, 2), (1, 3)] σ
  have zb := zt_nl_b (σ 2) (σ 1 1) (zt_sk (σ 2) (σ 1 1) (σ 1 2))
  show V 0 [some (ZR 1), none] [] 284 σ
  refine zr_aload_n (pc := 0) hV dX8_takeName_0 rfl rfl ?_
  refine zr_callVi (pc := 1) hV [] (st := []) (c_X8_next_2 (σ := σ) hσ) dX8_takeName_1 mX8_22 (zc_k1 zc_s1) (zc_pos zc_s1 rfl) (by decide) (Nat.le_of_ble_eq_true rfl) (Nat.le_refl _) (fun r1 σ1 hr1 pσ1 => ?_)
  obtain ⟨hσ1, hfσ1, pσ1⟩ := pσ1
  have hFσ1 := zc_Fc hfσ1 rfl hFσ
  have t1 := zc_g1_1 hσ zc_s1
  have t2 := zc_g1_2 hσ zc_s1
  have t3 := zc_g1_2 hσ1 zc_s1
  refine zr_pop (pc := 4) hV dX8_takeName_4 (fun _ => rfl) ?_
  refine zr_aload_n (pc := 5) hV dX8_takeName_5 rfl rfl ?_
  refine zr_aload_n (pc := 6) hV dX8_takeName_6 rfl rfl ?_
  refine zr_getI (pc := 7) hV 2 dX8_takeName_7 fX8_19 rfl rfl (zc_k1 zc_s1) (zc_pos zc_s1 rfl) ?_
  have t4 := zc_g1_2 hσ1 zc_s1
  refine zr_putI (pc := 10) hV 3 dX8_takeName_10 fX8_29 rfl rfl rfl (zc_k1 zc_s1) (zc_pos zc_s1 rfl) (fun σ10 eσ10 => ?_)
  have hσ10 : zc_T σ10 := zc_u1_3 eσ10 hσ1 zc_s1 (by omega)
  have hFσ10 := zc_Fw eσ10 zc_s1 rfl hFσ1
  refine zr_iconst (pc := 13) hV 0 dX8_takeName_13 rfl ?_
  refine zr_istore_n (pc := 14) hV [some (ZR 1), some (ZI 0)] dX8_takeName_14 rfl (by decide) rfl rfl ?_
  have L15 : ∀ (fuel : Nat) (x1_15 : Int) (σ_15 : zq_S), (0 ≤ x1_15 ∧ x1_15 ≤ 8026746) → (zc_T σ_15) → (zc_Fr [(1, 2), (1, 3)] σ σ_15) → (σ_15 1 3 = (zt_sk (σ 2) (σ 1 1) (σ 1 2))) → ((zt_sk (σ 2) (σ 1 1) (σ 1 2)) ≤ σ_15 1 2) → (σ_15 1 2 - (zt_sk (σ 2) (σ 1 1) (σ 1 2)) ≤ (zt_nl (σ 2) (σ 1 1) (zt_sk (σ 2) (σ 1 1) (σ 1 2)))) → (x1_15 = zt_na (σ 2) (zt_sk (σ 2) (σ 1 1) (σ 1 2)) (σ_15 1 2 - (zt_sk (σ 2) (σ 1 1) (σ 1 2)))) → ((σ_15 1 2 = (zt_sk (σ 2) (σ 1 1) (σ 1 2)) → x1_15 = 0) ∧ (σ_15 1 2 = (zt_sk (σ 2) (σ 1 1) (σ 1 2)) + 1 → x1_15 ≤ 122) ∧ (σ_15 1 2 = (zt_sk (σ 2) (σ 1 1) (σ 1 2)) + 2 → x1_15 ≤ 31354)) → 80 - σ_15 1 2 < (fuel : Int) → V 15 [some (ZR 1), some (ZI x1_15)] [] 284 σ_15 := by
    intro fuel
    induction fuel with
    | zero =>
      intro x1_15 σ_15 hx1_15 hσ_15 hFσ_15 hi15_0 hi15_1 hi15_2 hi15_3 hi15_4 hm15
      have t5 := zc_g1_2 hσ_15 zc_s1
      exfalso; omega
    | succ fuel ih =>
      intro x1_15 σ_15 hx1_15 hσ_15 hFσ_15 hi15_0 hi15_1 hi15_2 hi15_3 hi15_4 hm15
      have ih15 := ih
      show V 15 [some (ZR 1), some (ZI x1_15)] [] 284 σ_15
      refine zr_aload_n (pc := 15) hV dX8_takeName_15 rfl rfl ?_
      refine zr_getI (pc := 16) hV 2 dX8_takeName_16 fX8_19 rfl rfl (zc_k1 zc_s1) (zc_pos zc_s1 rfl) ?_
      have t6 := zc_g1_2 hσ_15 zc_s1
      refine zr_aload_n (pc := 19) hV dX8_takeName_19 rfl rfl ?_
      refine zr_getI (pc := 20) hV 1 dX8_takeName_20 fX8_15 rfl rfl (zc_k1 zc_s1) (zc_pos zc_s1 rfl) ?_
      have t7 := zc_g1_1 hσ_15 zc_s1
      have t8 : σ_15 1 1 = σ 1 1 := hFσ_15 _ _ (zc_out_at zc_s1 rfl)
      refine zr_icmp_ge (pc := 23) hV 96 dX8_takeName_23 (by decide) (by omega) (by omega) (fun c9 => ?_) (fun c9 => ?_)
      · show V 96 [some (ZR 1), some (ZI x1_15)] [] 284 σ_15
        have zl := zt_nl_le (t := σ 2) (n := σ 1 1) (s := (zt_sk (σ 2) (σ 1 1) (σ 1 2))) (a := σ_15 1 2) (by omega) (by omega)
        refine zr_iload_n (pc := 96) hV dX8_takeName_96 rfl rfl ?_
        have t10 := zc_g1_2 hσ_15 zc_s1
        have t11 := zc_g1_3 hσ_15 zc_s1
        exact zr_iret (pc := 97) hV dX8_takeName_97 rfl rfl ⟨_, rfl, (by omega), hσ_15, hFσ_15, ⟨by omega, ⟨by omega, by omega, by rw [show (zt_nl (σ 2) (σ 1 1) (zt_sk (σ 2) (σ 1 1) (σ 1 2))) = σ_15 1 2 - (zt_sk (σ 2) (σ 1 1) (σ 1 2)) by omega]; omega⟩⟩⟩
      · show V 26 [some (ZR 1), some (ZI x1_15)] [] 284 σ_15
        refine zr_aload_n (pc := 26) hV dX8_takeName_26 rfl rfl ?_
        refine zr_getI (pc := 27) hV 2 dX8_takeName_27 fX8_19 rfl rfl (zc_k1 zc_s1) (zc_pos zc_s1 rfl) ?_
        have t12 := zc_g1_2 hσ_15 zc_s1
        refine zr_aload_n (pc := 30) hV dX8_takeName_30 rfl rfl ?_
        refine zr_getI (pc := 31) hV 3 dX8_takeName_31 fX8_29 rfl rfl (zc_k1 zc_s1) (zc_pos zc_s1 rfl) ?_
        have t13 := zc_g1_3 hσ_15 zc_s1
        refine zr_iconst (pc := 34) hV 3 dX8_takeName_34 rfl ?_
        refine zr_iadd (pc := 35) hV dX8_takeName_35 ?_
        refine zr_icmp_ge (pc := 36) hV 96 dX8_takeName_36 (by decide) (by omega) (by omega) (fun c14 => ?_) (fun c14 => ?_)
        · show V 96 [some (ZR 1), some (ZI x1_15)] [] 284 σ_15
          have zl := zt_nl_le (t := σ 2) (n := σ 1 1) (s := (zt_sk (σ 2) (σ 1 1) (σ 1 2))) (a := σ_15 1 2) (by omega) (by omega)
          refine zr_iload_n (pc := 96) hV dX8_takeName_96 rfl rfl ?_
          have t15 := zc_g1_2 hσ_15 zc_s1
          have t16 := zc_g1_3 hσ_15 zc_s1
          exact zr_iret (pc := 97) hV dX8_takeName_97 rfl rfl ⟨_, rfl, (by omega), hσ_15, hFσ_15, ⟨by omega, ⟨by omega, by omega, by rw [show (zt_nl (σ 2) (σ 1 1) (zt_sk (σ 2) (σ 1 1) (σ 1 2))) = σ_15 1 2 - (zt_sk (σ 2) (σ 1 1) (σ 1 2)) by omega]; omega⟩⟩⟩
        · show V 39 [some (ZR 1), some (ZI x1_15)] [] 284 σ_15
          refine zr_aload_n (pc := 39) hV dX8_takeName_39 rfl rfl ?_
          refine zr_getR (pc := 40) hV 0 2 dX8_takeName_40 fX8_11 rfl rfl (zc_k1 zc_s1) (zc_pos zc_s1 rfl) (zc_g1_0 hσ_15 zc_s1) (by decide) ?_
          refine zr_aload_n (pc := 43) hV dX8_takeName_43 rfl rfl ?_
          refine zr_getI (pc := 44) hV 2 dX8_takeName_44 fX8_19 rfl rfl (zc_k1 zc_s1) (zc_pos zc_s1 rfl) ?_
          have t17 := zc_g1_2 hσ_15 zc_s1
          refine zr_iald (pc := 47) hV dX8_takeName_47 (zc_k2 zc_s2) (zc_pos zc_s2 rfl) rfl (by omega) ?_
          have t18 := zc_ga2 hσ_15 zc_s2 (σ_15 1 2)
          have t19 : σ_15 2 (σ_15 1 2) = σ 2 (σ_15 1 2) := hFσ_15 _ _ (zc_out_ar zc_s2 rfl)
          refine zr_bipush (pc := 48) hV 97 dX8_takeName_48 (by decide) ?_
          refine zr_icmp_lt (pc := 50) hV 96 dX8_takeName_50 (by decide) (by omega) ⟨by decide, by decide⟩ (fun c20 => ?_) (fun c20 => ?_)
          · show V 96 [some (ZR 1), some (ZI x1_15)] [] 284 σ_15
            have zl := zt_nl_le (t := σ 2) (n := σ 1 1) (s := (zt_sk (σ 2) (σ 1 1) (σ 1 2))) (a := σ_15 1 2) (by omega) (by omega)
            refine zr_iload_n (pc := 96) hV dX8_takeName_96 rfl rfl ?_
            have t21 := zc_g1_2 hσ_15 zc_s1
            have t22 := zc_g1_3 hσ_15 zc_s1
            exact zr_iret (pc := 97) hV dX8_takeName_97 rfl rfl ⟨_, rfl, (by omega), hσ_15, hFσ_15, ⟨by omega, ⟨by omega, by omega, by rw [show (zt_nl (σ 2) (σ 1 1) (zt_sk (σ 2) (σ 1 1) (σ 1 2))) = σ_15 1 2 - (zt_sk (σ 2) (σ 1 1) (σ 1 2)) by omega]; omega⟩⟩⟩
          · show V 53 [some (ZR 1), some (ZI x1_15)] [] 284 σ_15
            refine zr_aload_n (pc := 53) hV dX8_takeName_53 rfl rfl ?_
            refine zr_getR (pc := 54) hV 0 2 dX8_takeName_54 fX8_11 rfl rfl (zc_k1 zc_s1) (zc_pos zc_s1 rfl) (zc_g1_0 hσ_15 zc_s1) (by decide) ?_
            refine zr_aload_n (pc := 57) hV dX8_takeName_57 rfl rfl ?_
            refine zr_getI (pc := 58) hV 2 dX8_takeName_58 fX8_19 rfl rfl (zc_k1 zc_s1) (zc_pos zc_s1 rfl) ?_
            have t23 := zc_g1_2 hσ_15 zc_s1
            refine zr_iald (pc := 61) hV dX8_takeName_61 (zc_k2 zc_s2) (zc_pos zc_s2 rfl) rfl (by omega) ?_
            have t24 := zc_ga2 hσ_15 zc_s2 (σ_15 1 2)
            have t25 : σ_15 2 (σ_15 1 2) = σ 2 (σ_15 1 2) := hFσ_15 _ _ (zc_out_ar zc_s2 rfl)
            refine zr_bipush (pc := 62) hV 122 dX8_takeName_62 (by decide) ?_
            refine zr_icmp_gt (pc := 64) hV 96 dX8_takeName_64 (by decide) (by omega) ⟨by decide, by decide⟩ (fun c26 => ?_) (fun c26 => ?_)
            · show V 96 [some (ZR 1), some (ZI x1_15)] [] 284 σ_15
              have zl := zt_nl_le (t := σ 2) (n := σ 1 1) (s := (zt_sk (σ 2) (σ 1 1) (σ 1 2))) (a := σ_15 1 2) (by omega) (by omega)
              refine zr_iload_n (pc := 96) hV dX8_takeName_96 rfl rfl ?_
              have t27 := zc_g1_2 hσ_15 zc_s1
              have t28 := zc_g1_3 hσ_15 zc_s1
              exact zr_iret (pc := 97) hV dX8_takeName_97 rfl rfl ⟨_, rfl, (by omega), hσ_15, hFσ_15, ⟨by omega, ⟨by omega, by omega, by rw [show (zt_nl (σ 2) (σ 1 1) (zt_sk (σ 2) (σ 1 1) (σ 1 2))) = σ_15 1 2 - (zt_sk (σ 2) (σ 1 1) (σ 1 2)) by omega]; omega⟩⟩⟩
            · show V 67 [some (ZR 1), some (ZI x1_15)] [] 284 σ_15
              refine zr_iload_n (pc := 67) hV dX8_takeName_67 rfl rfl ?_
              refine zr_sipush (pc := 68) hV 256 dX8_takeName_68 (by decide) ?_
              refine zr_imul (pc := 71) hV dX8_takeName_71 ?_
              refine zr_aload_n (pc := 72) hV dX8_takeName_72 rfl rfl ?_
              refine zr_getR (pc := 73) hV 0 2 dX8_takeName_73 fX8_11 rfl rfl (zc_k1 zc_s1) (zc_pos zc_s1 rfl) (zc_g1_0 hσ_15 zc_s1) (by decide) ?_
              refine zr_aload_n (pc := 76) hV dX8_takeName_76 rfl rfl ?_
              refine zr_getI (pc := 77) hV 2 dX8_takeName_77 fX8_19 rfl rfl (zc_k1 zc_s1) (zc_pos zc_s1 rfl) ?_
              have t29 := zc_g1_2 hσ_15 zc_s1
              refine zr_iald (pc := 80) hV dX8_takeName_80 (zc_k2 zc_s2) (zc_pos zc_s2 rfl) rfl (by omega) ?_
              have t30 := zc_ga2 hσ_15 zc_s2 (σ_15 1 2)
              have t31 : σ_15 2 (σ_15 1 2) = σ 2 (σ_15 1 2) := hFσ_15 _ _ (zc_out_ar zc_s2 rfl)
              refine zr_iadd (pc := 81) hV dX8_takeName_81 ?_
              refine zr_istore_n (pc := 82) hV [some (ZR 1), some (ZI ((x1_15 * 256) + (σ_15 2 (σ_15 1 2))))] dX8_takeName_82 rfl (by decide) rfl rfl ?_
              refine zr_aload_n (pc := 83) hV dX8_takeName_83 rfl rfl ?_
              refine zr_dup (pc := 84) hV dX8_takeName_84 (fun _ => rfl) ?_
              refine zr_getI (pc := 85) hV 2 dX8_takeName_85 fX8_19 rfl rfl (zc_k1 zc_s1) (zc_pos zc_s1 rfl) ?_
              have t32 := zc_g1_2 hσ_15 zc_s1
              refine zr_iconst (pc := 88) hV 1 dX8_takeName_88 rfl ?_
              refine zr_iadd (pc := 89) hV dX8_takeName_89 ?_
              refine zr_putI (pc := 90) hV 2 dX8_takeName_90 fX8_19 rfl rfl rfl (zc_k1 zc_s1) (zc_pos zc_s1 rfl) (fun σ90 eσ90 => ?_)
              have hσ90 : zc_T σ90 := zc_u1_2 eσ90 hσ_15 zc_s1 (by omega)
              have hFσ90 := zc_Fw eσ90 zc_s1 rfl hFσ_15
              refine zr_goto (pc := 93) hV 15 dX8_takeName_93 (by decide) ?_
              have t33 := zc_g1_3 hσ90 zc_s1
              have t34 : σ90 1 3 = σ_15 1 3 := by rw [eσ90]; exact zq_up_ne (by omega)
              have t35 := zc_g1_2 hσ90 zc_s1
              have t36 : σ90 1 2 = (σ_15 1 2) + 1 := by rw [eσ90]; exact zq_up_same _ _ _ _
              have t37 := zc_g1_2 hσ90 zc_s1
              have t38 : σ90 1 2 = (σ_15 1 2) + 1 := by rw [eσ90]; exact zq_up_same _ _ _ _
              have t39 := zc_g1_2 hσ90 zc_s1
              have t40 : σ90 1 2 = (σ_15 1 2) + 1 := by rw [eσ90]; exact zq_up_same _ _ _ _
              have t41 := zc_g1_2 hσ90 zc_s1
              have t42 : σ90 1 2 = (σ_15 1 2) + 1 := by rw [eσ90]; exact zq_up_same _ _ _ _
              have t43 := zc_g1_2 hσ90 zc_s1
              have t44 : σ90 1 2 = (σ_15 1 2) + 1 := by rw [eσ90]; exact zq_up_same _ _ _ _
              exact ih15 ((x1_15 * 256) + (σ_15 2 (σ_15 1 2))) σ90 (by omega) hσ90 hFσ90 (by omega) (by omega) (by have := zt_nl_ge (t := σ 2) (n := σ 1 1) (s := (zt_sk (σ 2) (σ 1 1) (σ 1 2))) (a := σ_15 1 2) (by omega) (by omega) ⟨by omega, by omega, by omega⟩ (by omega); omega) (by rw [show σ90 1 2 - (zt_sk (σ 2) (σ 1 1) (σ 1 2)) = σ_15 1 2 + 1 - (zt_sk (σ 2) (σ 1 1) (σ 1 2)) by omega, zt_na_s (by omega) (by omega)]; omega) (by omega) (by omega)
  have t45 := zc_g1_3 hσ10 zc_s1
  have t46 : σ10 1 3 = σ1 1 2 := by rw [eσ10]; exact zq_up_same _ _ _ _
  have t47 := zc_g1_2 hσ10 zc_s1
  have t48 : σ10 1 2 = σ1 1 2 := by rw [eσ10]; exact zq_up_ne (by omega)
  have t49 := zc_g1_2 hσ10 zc_s1
  have t50 : σ10 1 2 = σ1 1 2 := by rw [eσ10]; exact zq_up_ne (by omega)
  have t51 := zc_g1_2 hσ10 zc_s1
  have t52 : σ10 1 2 = σ1 1 2 := by rw [eσ10]; exact zq_up_ne (by omega)
  have t53 := zc_g1_2 hσ10 zc_s1
  have t54 : σ10 1 2 = σ1 1 2 := by rw [eσ10]; exact zq_up_ne (by omega)
  have t55 := zc_g1_2 hσ10 zc_s1
  have t56 : σ10 1 2 = σ1 1 2 := by rw [eσ10]; exact zq_up_ne (by omega)
  exact L15 (80 - σ10 1 2 + 1 : Int).toNat 0 σ10 (by omega) hσ10 hFσ10 (by omega) (by omega) (by omega) (by rw [show σ10 1 2 - (zt_sk (σ 2) (σ 1 1) (σ 1 2)) = 0 by omega, zt_na_0]) (by omega) (by omega)
set_option maxHeartbeats 800000 in
theorem c_X8_takeNumber_2 {σ : zq_S} (hσ : zc_T σ) (most : Int) (q0 : 0 ≤ most ∧ most ≤ 255) : zq_C zc_w yX8_takeNumber cX8_takeNumber 3 (some .int) 1 21 284 284 [ZR 1, ZI most] σ (zq_pi (fun r τ => zc_T τ ∧ zc_Fr [(1, 2), (1, 3)] σ τ ∧ (((-1) ≤ r ∧ r ≤ 1000) ∧ (r = -1 ∨ r ≤ most) ∧ r = zt_nuR (σ 2) (σ 1 1) most (σ 1 2) ∧ τ 1 2 = zt_nuA (σ 2) (σ 1 1) most (σ 1 2)))) := by
  refine zq_C_of (by decide) (Nat.le_refl _) (Nat.le_of_ble_eq_true rfl) [some (ZR 1), some (ZI most), none] rfl (fun V hV => ?_)
  have hFσ := zc_Fr_rf [(1, 2), (1, 3)] σ
  show V 0 [some (ZR 1), some (ZI most), none] [] 284 σ
  refine zr_aload_n (pc := 0) hV dX8_takeNumber_0 rfl rfl ?_
  refine zr_callVi (pc := 1) hV [] (st := []) (c_X8_next_2 (σ := σ) hσ) dX8_takeNumber_1 mX8_22 (zc_k1 zc_s1) (zc_pos zc_s1 rfl) (by decide) (Nat.le_of_ble_eq_true rfl) (Nat.le_refl _) (fun r1 σ1 hr1 pσ1 => ?_)
  obtain ⟨hσ1, hfσ1, pσ1⟩ := pσ1
  have hFσ1 := zc_Fc hfσ1 rfl hFσ
  have t1 := zc_g1_1 hσ zc_s1
  have t2 := zc_g1_2 hσ zc_s1
  have t3 := zc_g1_2 hσ1 zc_s1
  refine zr_callSp (pc := 4) hV [ZI r1] (st := []) (c_X8_isDigit (σ := σ1) r1 (by omega)) dX8_takeNumber_4 mX8_32 (by decide) (Nat.le_of_ble_eq_true rfl) (Nat.le_refl _) (fun r4 hr4 pr4 => ?_)
  refine zr_if_ne (pc := 7) hV 12 dX8_takeNumber_7 (by decide) (by omega) (fun c4 => ?_) (fun c4 => ?_)
  · show V 12 [some (ZR 1), some (ZI most), none] [] 284 σ1
    refine zr_aload_n (pc := 12) hV dX8_takeNumber_12 rfl rfl ?_
    refine zr_aload_n (pc := 13) hV dX8_takeNumber_13 rfl rfl ?_
    refine zr_getI (pc := 14) hV 2 dX8_takeNumber_14 fX8_19 rfl rfl (zc_k1 zc_s1) (zc_pos zc_s1 rfl) ?_
    have t5 := zc_g1_2 hσ1 zc_s1
    refine zr_putI (pc := 17) hV 3 dX8_takeNumber_17 fX8_29 rfl rfl rfl (zc_k1 zc_s1) (zc_pos zc_s1 rfl) (fun σ17 eσ17 => ?_)
    have hσ17 : zc_T σ17 := zc_u1_3 eσ17 hσ1 zc_s1 (by omega)
    have hFσ17 := zc_Fw eσ17 zc_s1 rfl hFσ1
    refine zr_iconst (pc := 20) hV 0 dX8_takeNumber_20 rfl ?_
    refine zr_istore_n (pc := 21) hV [some (ZR 1), some (ZI most), some (ZI 0)] dX8_takeNumber_21 rfl (by decide) rfl rfl ?_
    have L22 : ∀ (fuel : Nat) (x2_22 : Int) (σ_22 : zq_S), (0 ≤ x2_22 ∧ x2_22 ≤ 1000) → (zc_T σ_22) → (zc_Fr [(1, 2), (1, 3)] σ σ_22) → (σ_22 1 3 = (zt_sk (σ 2) (σ 1 1) (σ 1 2))) → ((zt_sk (σ 2) (σ 1 1) (σ 1 2)) ≤ σ_22 1 2) → (zt_de (σ 2) (σ 1 1) (σ_22 1 2) = zt_de (σ 2) (σ 1 1) (zt_sk (σ 2) (σ 1 1) (σ 1 2))) → (0 ≤ (zt_dv (σ 2) (zt_sk (σ 2) (σ 1 1) (σ 1 2)) (σ_22 1 2)) ∧ ((zt_dv (σ 2) (zt_sk (σ 2) (σ 1 1) (σ 1 2)) (σ_22 1 2)) ≤ 1000 → x2_22 = (zt_dv (σ 2) (zt_sk (σ 2) (σ 1 1) (σ 1 2)) (σ_22 1 2))) ∧ (1000 < (zt_dv (σ 2) (zt_sk (σ 2) (σ 1 1) (σ 1 2)) (σ_22 1 2)) → x2_22 = 1000)) → 80 - σ_22 1 2 < (fuel : Int) → V 22 [some (ZR 1), some (ZI most), some (ZI x2_22)] [] 284 σ_22 := by
      intro fuel
      induction fuel with
      | zero =>
        intro x2_22 σ_22 hx2_22 hσ_22 hFσ_22 hi22_0 hi22_1 hi22_2 hi22_3 hm22
        have t6 := zc_g1_2 hσ_22 zc_s1
        exfalso; omega
      | succ fuel ih =>
        intro x2_22 σ_22 hx2_22 hσ_22 hFσ_22 hi22_0 hi22_1 hi22_2 hi22_3 hm22
        have ih22 := ih
        show V 22 [some (ZR 1), some (ZI most), some (ZI x2_22)] [] 284 σ_22
        refine zr_aload_n (pc := 22) hV dX8_takeNumber_22 rfl rfl ?_
        refine zr_getI (pc := 23) hV 2 dX8_takeNumber_23 fX8_19 rfl rfl (zc_k1 zc_s1) (zc_pos zc_s1 rfl) ?_
        have t7 := zc_g1_2 hσ_22 zc_s1
        refine zr_aload_n (pc := 26) hV dX8_takeNumber_26 rfl rfl ?_
        refine zr_getI (pc := 27) hV 1 dX8_takeNumber_27 fX8_15 rfl rfl (zc_k1 zc_s1) (zc_pos zc_s1 rfl) ?_
        have t8 := zc_g1_1 hσ_22 zc_s1
        have t9 : σ_22 1 1 = σ 1 1 := hFσ_22 _ _ (zc_out_at zc_s1 rfl)
        refine zr_icmp_ge (pc := 30) hV 85 dX8_takeNumber_30 (by decide) (by omega) (by omega) (fun c10 => ?_) (fun c10 => ?_)
        · show V 85 [some (ZR 1), some (ZI most), some (ZI x2_22)] [] 284 σ_22
          have zd : zt_de (σ 2) (σ 1 1) (σ_22 1 2) = σ_22 1 2 := zt_de_n (by omega)
          have zv : zt_dv (σ 2) (zt_sk (σ 2) (σ 1 1) (σ 1 2)) (zt_de (σ 2) (σ 1 1) (zt_sk (σ 2) (σ 1 1) (σ 1 2))) = zt_dv (σ 2) (zt_sk (σ 2) (σ 1 1) (σ 1 2)) (σ_22 1 2) := by rw [← hi22_2, zd]
          refine zr_iload_n (pc := 85) hV dX8_takeNumber_85 rfl rfl ?_
          refine zr_iload_n (pc := 86) hV dX8_takeNumber_86 rfl rfl ?_
          refine zr_icmp_le (pc := 87) hV 96 dX8_takeNumber_87 (by decide) (by omega) (by omega) (fun c11 => ?_) (fun c11 => ?_)
          · show V 96 [some (ZR 1), some (ZI most), some (ZI x2_22)] [] 284 σ_22
            have zu := zt_nu_y (t := σ 2) (n := σ 1 1) (m := most) (a := σ 1 2) (by omega)
            refine zr_iload_n (pc := 96) hV dX8_takeNumber_96 rfl rfl ?_
            have t12 := zc_g1_2 hσ_22 zc_s1
            exact zr_iret (pc := 97) hV dX8_takeNumber_97 rfl rfl ⟨_, rfl, (by omega), hσ_22, hFσ_22, (by omega)⟩
          · show V 90 [some (ZR 1), some (ZI most), some (ZI x2_22)] [] 284 σ_22
            refine zr_aload_n (pc := 90) hV dX8_takeNumber_90 rfl rfl ?_
            refine zr_callVv (pc := 91) hV [] (st := []) (c_X8_blameWord_2 (σ := σ_22) hσ_22) dX8_takeNumber_91 mX8_42 (zc_k1 zc_s1) (zc_pos zc_s1 rfl) (by decide) (Nat.le_of_ble_eq_true rfl) (Nat.le_refl _) (fun σ91 pσ91 => ?_)
            obtain ⟨hσ91, hfσ91, pσ91⟩ := pσ91
            have hFσ91 := zc_Fc hfσ91 rfl hFσ_22
            have t13 := zc_g1_3 hσ_22 zc_s1
            have t14 := zc_g1_2 hσ91 zc_s1
            have zu := zt_nu_n (t := σ 2) (n := σ 1 1) (m := most) (a := σ 1 2) (by omega)
            refine zr_iconst (pc := 94) hV (-1) dX8_takeNumber_94 rfl ?_
            have t15 := zc_g1_2 hσ91 zc_s1
            exact zr_iret (pc := 95) hV dX8_takeNumber_95 rfl rfl ⟨_, rfl, ⟨by decide, by decide⟩, hσ91, hFσ91, (by omega)⟩
        · show V 33 [some (ZR 1), some (ZI most), some (ZI x2_22)] [] 284 σ_22
          refine zr_aload_n (pc := 33) hV dX8_takeNumber_33 rfl rfl ?_
          refine zr_getR (pc := 34) hV 0 2 dX8_takeNumber_34 fX8_11 rfl rfl (zc_k1 zc_s1) (zc_pos zc_s1 rfl) (zc_g1_0 hσ_22 zc_s1) (by decide) ?_
          refine zr_aload_n (pc := 37) hV dX8_takeNumber_37 rfl rfl ?_
          refine zr_getI (pc := 38) hV 2 dX8_takeNumber_38 fX8_19 rfl rfl (zc_k1 zc_s1) (zc_pos zc_s1 rfl) ?_
          have t16 := zc_g1_2 hσ_22 zc_s1
          refine zr_iald (pc := 41) hV dX8_takeNumber_41 (zc_k2 zc_s2) (zc_pos zc_s2 rfl) rfl (by omega) ?_
          have t17 := zc_ga2 hσ_22 zc_s2 (σ_22 1 2)
          have t18 : σ_22 2 (σ_22 1 2) = σ 2 (σ_22 1 2) := hFσ_22 _ _ (zc_out_ar zc_s2 rfl)
          have t19 := zc_g1_2 hσ_22 zc_s1
          refine zr_callSp (pc := 42) hV [ZI (σ_22 2 (σ_22 1 2))] (st := []) (c_X8_isDigit (σ := σ_22) (σ_22 2 (σ_22 1 2)) (by omega)) dX8_takeNumber_42 mX8_32 (by decide) (Nat.le_of_ble_eq_true rfl) (Nat.le_refl _) (fun r42 hr42 pr42 => ?_)
          have t20 := zc_g1_2 hσ_22 zc_s1
          refine zr_if_eq (pc := 45) hV 85 dX8_takeNumber_45 (by decide) (by omega) (fun c21 => ?_) (fun c21 => ?_)
          · show V 85 [some (ZR 1), some (ZI most), some (ZI x2_22)] [] 284 σ_22
            have zd : zt_de (σ 2) (σ 1 1) (σ_22 1 2) = σ_22 1 2 := zt_de_n (by omega)
            have zv : zt_dv (σ 2) (zt_sk (σ 2) (σ 1 1) (σ 1 2)) (zt_de (σ 2) (σ 1 1) (zt_sk (σ 2) (σ 1 1) (σ 1 2))) = zt_dv (σ 2) (zt_sk (σ 2) (σ 1 1) (σ 1 2)) (σ_22 1 2) := by rw [← hi22_2, zd]
            refine zr_iload_n (pc := 85) hV dX8_takeNumber_85 rfl rfl ?_
            refine zr_iload_n (pc := 86) hV dX8_takeNumber_86 rfl rfl ?_
            refine zr_icmp_le (pc := 87) hV 96 dX8_takeNumber_87 (by decide) (by omega) (by omega) (fun c22 => ?_) (fun c22 => ?_)
            · show V 96 [some (ZR 1), some (ZI most), some (ZI x2_22)] [] 284 σ_22
              have zu := zt_nu_y (t := σ 2) (n := σ 1 1) (m := most) (a := σ 1 2) (by omega)
              refine zr_iload_n (pc := 96) hV dX8_takeNumber_96 rfl rfl ?_
              have t23 := zc_g1_2 hσ_22 zc_s1
              exact zr_iret (pc := 97) hV dX8_takeNumber_97 rfl rfl ⟨_, rfl, (by omega), hσ_22, hFσ_22, (by omega)⟩
            · show V 90 [some (ZR 1), some (ZI most), some (ZI x2_22)] [] 284 σ_22
              refine zr_aload_n (pc := 90) hV dX8_takeNumber_90 rfl rfl ?_
              refine zr_callVv (pc := 91) hV [] (st := []) (c_X8_blameWord_2 (σ := σ_22) hσ_22) dX8_takeNumber_91 mX8_42 (zc_k1 zc_s1) (zc_pos zc_s1 rfl) (by decide) (Nat.le_of_ble_eq_true rfl) (Nat.le_refl _) (fun σ91 pσ91 => ?_)
              obtain ⟨hσ91, hfσ91, pσ91⟩ := pσ91
              have hFσ91 := zc_Fc hfσ91 rfl hFσ_22
              have t24 := zc_g1_3 hσ_22 zc_s1
              have t25 := zc_g1_2 hσ91 zc_s1
              have zu := zt_nu_n (t := σ 2) (n := σ 1 1) (m := most) (a := σ 1 2) (by omega)
              refine zr_iconst (pc := 94) hV (-1) dX8_takeNumber_94 rfl ?_
              have t26 := zc_g1_2 hσ91 zc_s1
              exact zr_iret (pc := 95) hV dX8_takeNumber_95 rfl rfl ⟨_, rfl, ⟨by decide, by decide⟩, hσ91, hFσ91, (by omega)⟩
          · show V 48 [some (ZR 1), some (ZI most), some (ZI x2_22)] [] 284 σ_22
            refine zr_iload_n (pc := 48) hV dX8_takeNumber_48 rfl rfl ?_
            refine zr_bipush (pc := 49) hV 10 dX8_takeNumber_49 (by decide) ?_
            refine zr_imul (pc := 51) hV dX8_takeNumber_51 ?_
            refine zr_aload_n (pc := 52) hV dX8_takeNumber_52 rfl rfl ?_
            refine zr_getR (pc := 53) hV 0 2 dX8_takeNumber_53 fX8_11 rfl rfl (zc_k1 zc_s1) (zc_pos zc_s1 rfl) (zc_g1_0 hσ_22 zc_s1) (by decide) ?_
            refine zr_aload_n (pc := 56) hV dX8_takeNumber_56 rfl rfl ?_
            refine zr_getI (pc := 57) hV 2 dX8_takeNumber_57 fX8_19 rfl rfl (zc_k1 zc_s1) (zc_pos zc_s1 rfl) ?_
            have t27 := zc_g1_2 hσ_22 zc_s1
            refine zr_iald (pc := 60) hV dX8_takeNumber_60 (zc_k2 zc_s2) (zc_pos zc_s2 rfl) rfl (by omega) ?_
            have t28 := zc_ga2 hσ_22 zc_s2 (σ_22 1 2)
            have t29 : σ_22 2 (σ_22 1 2) = σ 2 (σ_22 1 2) := hFσ_22 _ _ (zc_out_ar zc_s2 rfl)
            refine zr_iadd (pc := 61) hV dX8_takeNumber_61 ?_
            refine zr_bipush (pc := 62) hV 48 dX8_takeNumber_62 (by decide) ?_
            refine zr_isub (pc := 64) hV dX8_takeNumber_64 ?_
            refine zr_sipush (pc := 65) hV 1000 dX8_takeNumber_65 (by decide) ?_
            refine zr_min (pc := 68) hV (st := []) dX8_takeNumber_68 lX8_36 (by omega) ⟨by decide, by decide⟩ (Nat.le_of_ble_eq_true rfl) rfl rfl (fun r68 pr68 qr68 => ?_)
            refine zr_istore_n (pc := 71) hV [some (ZR 1), some (ZI most), some (ZI r68)] dX8_takeNumber_71 rfl (by decide) rfl rfl ?_
            refine zr_aload_n (pc := 72) hV dX8_takeNumber_72 rfl rfl ?_
            refine zr_dup (pc := 73) hV dX8_takeNumber_73 (fun _ => rfl) ?_
            refine zr_getI (pc := 74) hV 2 dX8_takeNumber_74 fX8_19 rfl rfl (zc_k1 zc_s1) (zc_pos zc_s1 rfl) ?_
            have t30 := zc_g1_2 hσ_22 zc_s1
            refine zr_iconst (pc := 77) hV 1 dX8_takeNumber_77 rfl ?_
            refine zr_iadd (pc := 78) hV dX8_takeNumber_78 ?_
            refine zr_putI (pc := 79) hV 2 dX8_takeNumber_79 fX8_19 rfl rfl rfl (zc_k1 zc_s1) (zc_pos zc_s1 rfl) (fun σ79 eσ79 => ?_)
            have hσ79 : zc_T σ79 := zc_u1_2 eσ79 hσ_22 zc_s1 (by omega)
            have hFσ79 := zc_Fw eσ79 zc_s1 rfl hFσ_22
            refine zr_goto (pc := 82) hV 22 dX8_takeNumber_82 (by decide) ?_
            have t31 := zc_g1_3 hσ79 zc_s1
            have t32 : σ79 1 3 = σ_22 1 3 := by rw [eσ79]; exact zq_up_ne (by omega)
            have t33 := zc_g1_2 hσ79 zc_s1
            have t34 : σ79 1 2 = (σ_22 1 2) + 1 := by rw [eσ79]; exact zq_up_same _ _ _ _
            have t35 := zc_g1_2 hσ79 zc_s1
            have t36 : σ79 1 2 = (σ_22 1 2) + 1 := by rw [eσ79]; exact zq_up_same _ _ _ _
            have t37 := zc_g1_2 hσ79 zc_s1
            have t38 : σ79 1 2 = (σ_22 1 2) + 1 := by rw [eσ79]; exact zq_up_same _ _ _ _
            have t39 := zc_g1_2 hσ79 zc_s1
            have t40 : σ79 1 2 = (σ_22 1 2) + 1 := by rw [eσ79]; exact zq_up_same _ _ _ _
            exact ih22 r68 σ79 (by omega) hσ79 hFσ79 (by omega) (by omega) (by rw [show σ79 1 2 = σ_22 1 2 + 1 by omega, ← zt_de_y (t := σ 2) (n := σ 1 1) (a := σ_22 1 2) ⟨by omega, by omega, by omega⟩]; exact hi22_2) (by rw [show σ79 1 2 = σ_22 1 2 + 1 by omega, zt_dv_s (t := σ 2) (s := (zt_sk (σ 2) (σ 1 1) (σ 1 2))) (a := σ_22 1 2) (by omega)]; omega) (by omega)
    have t41 := zc_g1_3 hσ17 zc_s1
    have t42 : σ17 1 3 = σ1 1 2 := by rw [eσ17]; exact zq_up_same _ _ _ _
    have t43 := zc_g1_2 hσ17 zc_s1
    have t44 : σ17 1 2 = σ1 1 2 := by rw [eσ17]; exact zq_up_ne (by omega)
    have t45 := zc_g1_2 hσ17 zc_s1
    have t46 : σ17 1 2 = σ1 1 2 := by rw [eσ17]; exact zq_up_ne (by omega)
    have t47 := zc_g1_2 hσ17 zc_s1
    have t48 : σ17 1 2 = σ1 1 2 := by rw [eσ17]; exact zq_up_ne (by omega)
    have t49 := zc_g1_2 hσ17 zc_s1
    have t50 : σ17 1 2 = σ1 1 2 := by rw [eσ17]; exact zq_up_ne (by omega)
    exact L22 (80 - σ17 1 2 + 1 : Int).toNat 0 σ17 (by omega) hσ17 hFσ17 (by omega) (by omega) (by rw [show σ17 1 2 = (zt_sk (σ 2) (σ 1 1) (σ 1 2)) by omega]) (by rw [show σ17 1 2 = (zt_sk (σ 2) (σ 1 1) (σ 1 2)) by omega, zt_dv_0]; omega) (by omega)
  · show V 10 [some (ZR 1), some (ZI most), none] [] 284 σ1
    have zu := zt_nu_n (t := σ 2) (n := σ 1 1) (m := most) (a := σ 1 2) (by omega)
    refine zr_iconst (pc := 10) hV (-1) dX8_takeNumber_10 rfl ?_
    have t51 := zc_g1_2 hσ1 zc_s1
    exact zr_iret (pc := 11) hV dX8_takeNumber_11 rfl rfl ⟨_, rfl, ⟨by decide, by decide⟩, hσ1, hFσ1, (by omega)⟩
