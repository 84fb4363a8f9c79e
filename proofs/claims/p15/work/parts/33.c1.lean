set_option maxHeartbeats 800000 in
theorem c_J6_bitCount_0f7a4 {σ : zq_S} (i : Int) (q0 : zq_in i) : zq_C zc_w yJ6_bitCount_0f7a4 cJ6_bitCount_0f7a4 1 (some .int) 0 0 284 284 [ZI i] σ (zq_pp σ (fun r => (0 ≤ r ∧ r ≤ 63))) := by
  refine zq_C_of (by decide) (Nat.le_refl _) (Nat.le_of_ble_eq_true rfl) [some (ZI i)] rfl (fun V hV => ?_)
  show V 0 [some (ZI i)] [] 284 σ
  refine zr_iload_n (pc := 0) hV dJ6_bitCount_0f7a4_0 rfl rfl ?_
  refine zr_iload_n (pc := 1) hV dJ6_bitCount_0f7a4_1 rfl rfl ?_
  refine zr_iconst (pc := 2) hV 1 dJ6_bitCount_0f7a4_2 rfl ?_
  refine zr_iushr (pc := 3) hV dJ6_bitCount_0f7a4_3 ?_
  have t1 := zq_ushr_in i 1
  refine zr_ldcw (pc := 4) (v := 1431655765) hV 1431655765 dJ6_bitCount_0f7a4_4 kXJ_265 (by decide) ?_
  refine zr_iand (pc := 7) hV dJ6_bitCount_0f7a4_7 ?_
  have t2 := zq_and_nnR (x := zq_ushr i 1) (y := 1431655765) (by omega)
  refine zr_isub (pc := 8) hV dJ6_bitCount_0f7a4_8 ?_
  refine zr_any (pc := 9) hV (fun y9 hy9 _ => ?_)
  refine zr_istore_n (pc := 9) hV [some (ZI y9)] dJ6_bitCount_0f7a4_9 rfl (by decide) rfl rfl ?_
  refine zr_iload_n (pc := 10) hV dJ6_bitCount_0f7a4_10 rfl rfl ?_
  refine zr_ldcw (pc := 11) (v := 858993459) hV 858993459 dJ6_bitCount_0f7a4_11 kXJ_266 (by decide) ?_
  refine zr_iand (pc := 14) hV dJ6_bitCount_0f7a4_14 ?_
  have t3 := zq_and_nnR (x := y9) (y := 858993459) (by omega)
  refine zr_iload_n (pc := 15) hV dJ6_bitCount_0f7a4_15 rfl rfl ?_
  refine zr_iconst (pc := 16) hV 2 dJ6_bitCount_0f7a4_16 rfl ?_
  refine zr_iushr (pc := 17) hV dJ6_bitCount_0f7a4_17 ?_
  have t4 := zq_ushr_in y9 2
  refine zr_ldcw (pc := 18) (v := 858993459) hV 858993459 dJ6_bitCount_0f7a4_18 kXJ_266 (by decide) ?_
  refine zr_iand (pc := 21) hV dJ6_bitCount_0f7a4_21 ?_
  have t5 := zq_and_nnR (x := zq_ushr y9 2) (y := 858993459) (by omega)
  refine zr_iadd (pc := 22) hV dJ6_bitCount_0f7a4_22 ?_
  refine zr_istore_n (pc := 23) hV [some (ZI ((zq_and y9 858993459) + (zq_and (zq_ushr y9 2) 858993459)))] dJ6_bitCount_0f7a4_23 rfl (by decide) rfl rfl ?_
  refine zr_iload_n (pc := 24) hV dJ6_bitCount_0f7a4_24 rfl rfl ?_
  refine zr_iload_n (pc := 25) hV dJ6_bitCount_0f7a4_25 rfl rfl ?_
  refine zr_iconst (pc := 26) hV 4 dJ6_bitCount_0f7a4_26 rfl ?_
  refine zr_iushr (pc := 27) hV dJ6_bitCount_0f7a4_27 ?_
  have t6 := zq_ushr_in ((zq_and y9 858993459) + (zq_and (zq_ushr y9 2) 858993459)) 4
  refine zr_iadd (pc := 28) hV dJ6_bitCount_0f7a4_28 ?_
  refine zr_any (pc := 29) hV (fun y29 hy29 _ => ?_)
  refine zr_ldcw (pc := 29) (v := 252645135) hV 252645135 dJ6_bitCount_0f7a4_29 kXJ_267 (by decide) ?_
  refine zr_iand (pc := 32) hV dJ6_bitCount_0f7a4_32 ?_
  have t7 := zq_and_nnR (x := y29) (y := 252645135) (by omega)
  refine zr_istore_n (pc := 33) hV [some (ZI (zq_and y29 252645135))] dJ6_bitCount_0f7a4_33 rfl (by decide) rfl rfl ?_
  refine zr_iload_n (pc := 34) hV dJ6_bitCount_0f7a4_34 rfl rfl ?_
  refine zr_iload_n (pc := 35) hV dJ6_bitCount_0f7a4_35 rfl rfl ?_
  refine zr_bipush (pc := 36) hV 8 dJ6_bitCount_0f7a4_36 (by decide) ?_
  refine zr_iushr (pc := 38) hV dJ6_bitCount_0f7a4_38 ?_
  have t8 := zq_ushr_in (zq_and y29 252645135) 8
  refine zr_iadd (pc := 39) hV dJ6_bitCount_0f7a4_39 ?_
  refine zr_any (pc := 40) hV (fun y40 hy40 _ => ?_)
  refine zr_istore_n (pc := 40) hV [some (ZI y40)] dJ6_bitCount_0f7a4_40 rfl (by decide) rfl rfl ?_
  refine zr_iload_n (pc := 41) hV dJ6_bitCount_0f7a4_41 rfl rfl ?_
  refine zr_iload_n (pc := 42) hV dJ6_bitCount_0f7a4_42 rfl rfl ?_
  refine zr_bipush (pc := 43) hV 16 dJ6_bitCount_0f7a4_43 (by decide) ?_
  refine zr_iushr (pc := 45) hV dJ6_bitCount_0f7a4_45 ?_
  have t9 := zq_ushr_in y40 16
  refine zr_iadd (pc := 46) hV dJ6_bitCount_0f7a4_46 ?_
  refine zr_any (pc := 47) hV (fun y47 hy47 _ => ?_)
  refine zr_istore_n (pc := 47) hV [some (ZI y47)] dJ6_bitCount_0f7a4_47 rfl (by decide) rfl rfl ?_
  refine zr_iload_n (pc := 48) hV dJ6_bitCount_0f7a4_48 rfl rfl ?_
  refine zr_bipush (pc := 49) hV 63 dJ6_bitCount_0f7a4_49 (by decide) ?_
  refine zr_iand (pc := 51) hV dJ6_bitCount_0f7a4_51 ?_
  have t10 := zq_and_mask y47 6 63 64 (by decide) (by decide) (by decide)
  exact zr_iret (pc := 52) hV dJ6_bitCount_0f7a4_52 rfl rfl ⟨rfl, _, rfl, (by omega), (by omega)⟩
set_option maxHeartbeats 800000 in
theorem c_X8_rewind {σ : zq_S} (hσ : zc_T σ)   : zq_C zc_w yX8_rewind cX8_rewind 1 (none) 0 0 284 284 [ZR 1] σ (zq_pv (fun τ => zc_T τ ∧ zc_Fr [(1, 2)] σ τ ∧ (True))) := by
  refine zq_C_of (by decide) (Nat.le_refl _) (Nat.le_of_ble_eq_true rfl) [some (ZR 1)] rfl (fun V hV => ?_)
  have hFσ := zc_Fr_rf [(1, 2)] σ
  show V 0 [some (ZR 1)] [] 284 σ
  refine zr_aload_n (pc := 0) hV dX8_rewind_0 rfl rfl ?_
  refine zr_iconst (pc := 1) hV 0 dX8_rewind_1 rfl ?_
  refine zr_putI (pc := 2) hV 2 dX8_rewind_2 fX8_19 rfl rfl rfl (zc_k1 zc_s1) (zc_pos zc_s1 rfl) (fun σ2 eσ2 => ?_)
  have hσ2 : zc_T σ2 := zc_u1_2 eσ2 hσ zc_s1 (by omega)
  have hFσ2 := zc_Fw eσ2 zc_s1 rfl hFσ
  exact zr_vret (pc := 5) hV dX8_rewind_5 rfl rfl ⟨rfl, hσ2, hFσ2, trivial⟩
set_option maxHeartbeats 800000 in
theorem c_X8_fault {σ : zq_S} (hσ : zc_T σ)   : zq_C zc_w yX8_fault cX8_fault 1 (some .int) 0 0 284 284 [ZR 1] σ (zq_pp σ (fun r => True)) := by
  refine zq_C_of (by decide) (Nat.le_refl _) (Nat.le_of_ble_eq_true rfl) [some (ZR 1)] rfl (fun V hV => ?_)
  show V 0 [some (ZR 1)] [] 284 σ
  refine zr_bipush (pc := 0) hV (-20) dX8_fault_0 (by decide) ?_
  refine zr_aload_n (pc := 2) hV dX8_fault_2 rfl rfl ?_
  refine zr_getI (pc := 3) hV 2 dX8_fault_3 fX8_19 rfl rfl (zc_k1 zc_s1) (zc_pos zc_s1 rfl) ?_
  have t1 := zc_g1_2 hσ zc_s1
  refine zr_isub (pc := 6) hV dX8_fault_6 ?_
  exact zr_iret (pc := 7) hV dX8_fault_7 rfl rfl ⟨rfl, _, rfl, (by omega), trivial⟩
set_option maxHeartbeats 800000 in
theorem c_X8_blameWord {σ : zq_S} (hσ : zc_T σ)   : zq_C zc_w yX8_blameWord cX8_blameWord 1 (none) 0 0 284 284 [ZR 1] σ (zq_pv (fun τ => zc_T τ ∧ zc_Fr [(1, 2)] σ τ ∧ (True))) := by
  refine zq_C_of (by decide) (Nat.le_refl _) (Nat.le_of_ble_eq_true rfl) [some (ZR 1)] rfl (fun V hV => ?_)
  have hFσ := zc_Fr_rf [(1, 2)] σ
  show V 0 [some (ZR 1)] [] 284 σ
  refine zr_aload_n (pc := 0) hV dX8_blameWord_0 rfl rfl ?_
  refine zr_aload_n (pc := 1) hV dX8_blameWord_1 rfl rfl ?_
  refine zr_getI (pc := 2) hV 3 dX8_blameWord_2 fX8_29 rfl rfl (zc_k1 zc_s1) (zc_pos zc_s1 rfl) ?_
  have t1 := zc_g1_3 hσ zc_s1
  refine zr_putI (pc := 5) hV 2 dX8_blameWord_5 fX8_19 rfl rfl rfl (zc_k1 zc_s1) (zc_pos zc_s1 rfl) (fun σ5 eσ5 => ?_)
  have hσ5 : zc_T σ5 := zc_u1_2 eσ5 hσ zc_s1 (by omega)
  have hFσ5 := zc_Fw eσ5 zc_s1 rfl hFσ
  exact zr_vret (pc := 8) hV dX8_blameWord_8 rfl rfl ⟨rfl, hσ5, hFσ5, trivial⟩
set_option maxHeartbeats 800000 in
theorem c_X8_next {σ : zq_S} (hσ : zc_T σ)   : zq_C zc_w yX8_next cX8_next 1 (some .int) 0 0 284 284 [ZR 1] σ (zq_pi (fun r τ => zc_T τ ∧ zc_Fr [(1, 2)] σ τ ∧ (((-1) ≤ r ∧ r ≤ 255)))) := by
  refine zq_C_of (by decide) (Nat.le_refl _) (Nat.le_of_ble_eq_true rfl) [some (ZR 1)] rfl (fun V hV => ?_)
  have hFσ := zc_Fr_rf [(1, 2)] σ
  have L0 : ∀ (fuel : Nat) (σ_0 : zq_S), (zc_T σ_0) → (zc_Fr [(1, 2)] σ σ_0) → 80 - σ_0 1 2 < (fuel : Int) → V 0 [some (ZR 1)] [] 284 σ_0 := by
    intro fuel
    induction fuel with
    | zero =>
      intro σ_0 hσ_0 hFσ_0 hm0
      have t1 := zc_g1_2 hσ_0 zc_s1
      exfalso; omega
    | succ fuel ih =>
      intro σ_0 hσ_0 hFσ_0 hm0
      have ih0 := ih
      show V 0 [some (ZR 1)] [] 284 σ_0
      refine zr_aload_n (pc := 0) hV dX8_next_0 rfl rfl ?_
      refine zr_getI (pc := 1) hV 2 dX8_next_1 fX8_19 rfl rfl (zc_k1 zc_s1) (zc_pos zc_s1 rfl) ?_
      have t2 := zc_g1_2 hσ_0 zc_s1
      refine zr_aload_n (pc := 4) hV dX8_next_4 rfl rfl ?_
      refine zr_getI (pc := 5) hV 1 dX8_next_5 fX8_15 rfl rfl (zc_k1 zc_s1) (zc_pos zc_s1 rfl) ?_
      have t3 := zc_g1_1 hσ_0 zc_s1
      have t4 : σ_0 1 1 = σ 1 1 := hFσ_0 _ _ (zc_out_at zc_s1 rfl)
      refine zr_icmp_ge (pc := 8) hV 38 dX8_next_8 (by decide) (by omega) (by omega) (fun c5 => ?_) (fun c5 => ?_)
      · show V 38 [some (ZR 1)] [] 284 σ_0
        refine zr_aload_n (pc := 38) hV dX8_next_38 rfl rfl ?_
        refine zr_getI (pc := 39) hV 2 dX8_next_39 fX8_19 rfl rfl (zc_k1 zc_s1) (zc_pos zc_s1 rfl) ?_
        have t6 := zc_g1_2 hσ_0 zc_s1
        refine zr_aload_n (pc := 42) hV dX8_next_42 rfl rfl ?_
        refine zr_getI (pc := 43) hV 1 dX8_next_43 fX8_15 rfl rfl (zc_k1 zc_s1) (zc_pos zc_s1 rfl) ?_
        have t7 := zc_g1_1 hσ_0 zc_s1
        have t8 : σ_0 1 1 = σ 1 1 := hFσ_0 _ _ (zc_out_at zc_s1 rfl)
        refine zr_icmp_ge (pc := 46) hV 61 dX8_next_46 (by decide) (by omega) (by omega) (fun c9 => ?_) (fun c9 => ?_)
        · show V 61 [some (ZR 1)] [] 284 σ_0
          refine zr_iconst (pc := 61) hV (-1) dX8_next_61 rfl ?_
          show V 62 [some (ZR 1)] [ZI (-1)] 284 σ_0
          exact zr_iret (pc := 62) hV dX8_next_62 rfl rfl ⟨_, rfl, ⟨by decide, by decide⟩, hσ_0, hFσ_0, (by omega)⟩
        · show V 49 [some (ZR 1)] [] 284 σ_0
          refine zr_aload_n (pc := 49) hV dX8_next_49 rfl rfl ?_
          refine zr_getR (pc := 50) hV 0 2 dX8_next_50 fX8_11 rfl rfl (zc_k1 zc_s1) (zc_pos zc_s1 rfl) (zc_g1_0 hσ_0 zc_s1) (by decide) ?_
          refine zr_aload_n (pc := 53) hV dX8_next_53 rfl rfl ?_
          refine zr_getI (pc := 54) hV 2 dX8_next_54 fX8_19 rfl rfl (zc_k1 zc_s1) (zc_pos zc_s1 rfl) ?_
          have t10 := zc_g1_2 hσ_0 zc_s1
          refine zr_iald (pc := 57) hV dX8_next_57 (zc_k2 zc_s2) (zc_pos zc_s2 rfl) rfl (by omega) ?_
          have t11 := zc_ga2 hσ_0 zc_s2 (σ_0 1 2)
          have t12 : σ_0 2 (σ_0 1 2) = σ 2 (σ_0 1 2) := hFσ_0 _ _ (zc_out_ar zc_s2 rfl)
          refine zr_goto (pc := 58) hV 62 dX8_next_58 (by decide) ?_
          show V 62 [some (ZR 1)] [ZI (σ_0 2 (σ_0 1 2))] 284 σ_0
          exact zr_iret (pc := 62) hV dX8_next_62 rfl rfl ⟨_, rfl, (by omega), hσ_0, hFσ_0, (by omega)⟩
      · show V 11 [some (ZR 1)] [] 284 σ_0
        refine zr_aload_n (pc := 11) hV dX8_next_11 rfl rfl ?_
        refine zr_getR (pc := 12) hV 0 2 dX8_next_12 fX8_11 rfl rfl (zc_k1 zc_s1) (zc_pos zc_s1 rfl) (zc_g1_0 hσ_0 zc_s1) (by decide) ?_
        refine zr_aload_n (pc := 15) hV dX8_next_15 rfl rfl ?_
        refine zr_getI (pc := 16) hV 2 dX8_next_16 fX8_19 rfl rfl (zc_k1 zc_s1) (zc_pos zc_s1 rfl) ?_
        have t13 := zc_g1_2 hσ_0 zc_s1
        refine zr_iald (pc := 19) hV dX8_next_19 (zc_k2 zc_s2) (zc_pos zc_s2 rfl) rfl (by omega) ?_
        have t14 := zc_ga2 hσ_0 zc_s2 (σ_0 1 2)
        have t15 : σ_0 2 (σ_0 1 2) = σ 2 (σ_0 1 2) := hFσ_0 _ _ (zc_out_ar zc_s2 rfl)
        refine zr_bipush (pc := 20) hV 32 dX8_next_20 (by decide) ?_
        refine zr_icmp_ne (pc := 22) hV 38 dX8_next_22 (by decide) (by omega) ⟨by decide, by decide⟩ (fun c16 => ?_) (fun c16 => ?_)
        · show V 38 [some (ZR 1)] [] 284 σ_0
          refine zr_aload_n (pc := 38) hV dX8_next_38 rfl rfl ?_
          refine zr_getI (pc := 39) hV 2 dX8_next_39 fX8_19 rfl rfl (zc_k1 zc_s1) (zc_pos zc_s1 rfl) ?_
          have t17 := zc_g1_2 hσ_0 zc_s1
          refine zr_aload_n (pc := 42) hV dX8_next_42 rfl rfl ?_
          refine zr_getI (pc := 43) hV 1 dX8_next_43 fX8_15 rfl rfl (zc_k1 zc_s1) (zc_pos zc_s1 rfl) ?_
          have t18 := zc_g1_1 hσ_0 zc_s1
          have t19 : σ_0 1 1 = σ 1 1 := hFσ_0 _ _ (zc_out_at zc_s1 rfl)
          refine zr_icmp_ge (pc := 46) hV 61 dX8_next_46 (by decide) (by omega) (by omega) (fun c20 => ?_) (fun c20 => ?_)
          · show V 61 [some (ZR 1)] [] 284 σ_0
            refine zr_iconst (pc := 61) hV (-1) dX8_next_61 rfl ?_
            show V 62 [some (ZR 1)] [ZI (-1)] 284 σ_0
            exact zr_iret (pc := 62) hV dX8_next_62 rfl rfl ⟨_, rfl, ⟨by decide, by decide⟩, hσ_0, hFσ_0, (by omega)⟩
          · show V 49 [some (ZR 1)] [] 284 σ_0
            refine zr_aload_n (pc := 49) hV dX8_next_49 rfl rfl ?_
            refine zr_getR (pc := 50) hV 0 2 dX8_next_50 fX8_11 rfl rfl (zc_k1 zc_s1) (zc_pos zc_s1 rfl) (zc_g1_0 hσ_0 zc_s1) (by decide) ?_
            refine zr_aload_n (pc := 53) hV dX8_next_53 rfl rfl ?_
            refine zr_getI (pc := 54) hV 2 dX8_next_54 fX8_19 rfl rfl (zc_k1 zc_s1) (zc_pos zc_s1 rfl) ?_
            have t21 := zc_g1_2 hσ_0 zc_s1
            refine zr_iald (pc := 57) hV dX8_next_57 (zc_k2 zc_s2) (zc_pos zc_s2 rfl) rfl (by omega) ?_
            have t22 := zc_ga2 hσ_0 zc_s2 (σ_0 1 2)
            have t23 : σ_0 2 (σ_0 1 2) = σ 2 (σ_0 1 2) := hFσ_0 _ _ (zc_out_ar zc_s2 rfl)
            refine zr_goto (pc := 58) hV 62 dX8_next_58 (by decide) ?_
            show V 62 [some (ZR 1)] [ZI (σ_0 2 (σ_0 1 2))] 284 σ_0
            exact zr_iret (pc := 62) hV dX8_next_62 rfl rfl ⟨_, rfl, (by omega), hσ_0, hFσ_0, (by omega)⟩
        · show V 25 [some (ZR 1)] [] 284 σ_0
          refine zr_aload_n (pc := 25) hV dX8_next_25 rfl rfl ?_
          refine zr_dup (pc := 26) hV dX8_next_26 (fun _ => rfl) ?_
          refine zr_getI (pc := 27) hV 2 dX8_next_27 fX8_19 rfl rfl (zc_k1 zc_s1) (zc_pos zc_s1 rfl) ?_
          have t24 := zc_g1_2 hσ_0 zc_s1
          refine zr_iconst (pc := 30) hV 1 dX8_next_30 rfl ?_
          refine zr_iadd (pc := 31) hV dX8_next_31 ?_
          refine zr_putI (pc := 32) hV 2 dX8_next_32 fX8_19 rfl rfl rfl (zc_k1 zc_s1) (zc_pos zc_s1 rfl) (fun σ32 eσ32 => ?_)
          have hσ32 : zc_T σ32 := zc_u1_2 eσ32 hσ_0 zc_s1 (by omega)
          have hFσ32 := zc_Fw eσ32 zc_s1 rfl hFσ_0
          refine zr_goto (pc := 35) hV 0 dX8_next_35 (by decide) ?_
          have t25 := zc_g1_2 hσ32 zc_s1
          have t26 : σ32 1 2 = (σ_0 1 2) + 1 := by rw [eσ32]; exact zq_up_same _ _ _ _
          exact ih0 σ32 hσ32 hFσ32 (by omega)
  have t27 := zc_g1_2 hσ zc_s1
  exact L0 (80 - σ 1 2 + 1 : Int).toNat σ hσ hFσ (by omega)
set_option maxHeartbeats 800000 in
theorem c_X8_pass {σ : zq_S} (hσ : zc_T σ)   : zq_C zc_w yX8_pass cX8_pass 1 (none) 0 0 284 284 [ZR 1] σ (zq_pv (fun τ => zc_T τ ∧ zc_Fr [(1, 2)] σ τ ∧ (True))) := by
  refine zq_C_of (by decide) (Nat.le_refl _) (Nat.le_of_ble_eq_true rfl) [some (ZR 1)] rfl (fun V hV => ?_)
  have hFσ := zc_Fr_rf [(1, 2)] σ
  show V 0 [some (ZR 1)] [] 284 σ
  refine zr_aload_n (pc := 0) hV dX8_pass_0 rfl rfl ?_
  refine zr_getI (pc := 1) hV 2 dX8_pass_1 fX8_19 rfl rfl (zc_k1 zc_s1) (zc_pos zc_s1 rfl) ?_
  have t1 := zc_g1_2 hσ zc_s1
  refine zr_aload_n (pc := 4) hV dX8_pass_4 rfl rfl ?_
  refine zr_getI (pc := 5) hV 1 dX8_pass_5 fX8_15 rfl rfl (zc_k1 zc_s1) (zc_pos zc_s1 rfl) ?_
  have t2 := zc_g1_1 hσ zc_s1
  refine zr_icmp_ge (pc := 8) hV 21 dX8_pass_8 (by decide) (by omega) (by omega) (fun c3 => ?_) (fun c3 => ?_)
  · show V 21 [some (ZR 1)] [] 284 σ
    exact zr_vret (pc := 21) hV dX8_pass_21 rfl rfl ⟨rfl, hσ, hFσ, trivial⟩
  · show V 11 [some (ZR 1)] [] 284 σ
    refine zr_aload_n (pc := 11) hV dX8_pass_11 rfl rfl ?_
    refine zr_dup (pc := 12) hV dX8_pass_12 (fun _ => rfl) ?_
    refine zr_getI (pc := 13) hV 2 dX8_pass_13 fX8_19 rfl rfl (zc_k1 zc_s1) (zc_pos zc_s1 rfl) ?_
    have t4 := zc_g1_2 hσ zc_s1
    refine zr_iconst (pc := 16) hV 1 dX8_pass_16 rfl ?_
    refine zr_iadd (pc := 17) hV dX8_pass_17 ?_
    refine zr_putI (pc := 18) hV 2 dX8_pass_18 fX8_19 rfl rfl rfl (zc_k1 zc_s1) (zc_pos zc_s1 rfl) (fun σ18 eσ18 => ?_)
    have hσ18 : zc_T σ18 := zc_u1_2 eσ18 hσ zc_s1 (by omega)
    have hFσ18 := zc_Fw eσ18 zc_s1 rfl hFσ
    show V 21 [some (ZR 1)] [] 284 σ18
    exact zr_vret (pc := 21) hV dX8_pass_21 rfl rfl ⟨rfl, hσ18, hFσ18, trivial⟩
set_option maxHeartbeats 800000 in
theorem c_X8_takes {σ : zq_S} (hσ : zc_T σ) (wanted : Int) (q0 : zq_in wanted) : zq_C zc_w yX8_takes cX8_takes 2 (some .boolean) 1 20 284 284 [ZR 1, ZI wanted] σ (zq_pi (fun r τ => zc_T τ ∧ zc_Fr [(1, 2)] σ τ ∧ ((0 ≤ r ∧ r ≤ 1)))) := by
  refine zq_C_of (by decide) (Nat.le_refl _) (Nat.le_of_ble_eq_true rfl) [some (ZR 1), some (ZI wanted)] rfl (fun V hV => ?_)
  have hFσ := zc_Fr_rf [(1, 2)] σ
  show V 0 [some (ZR 1), some (ZI wanted)] [] 284 σ
  refine zr_aload_n (pc := 0) hV dX8_takes_0 rfl rfl ?_
  refine zr_callVi (pc := 1) hV [] (st := []) (c_X8_next (σ := σ) hσ) dX8_takes_1 mX8_22 (zc_k1 zc_s1) (zc_pos zc_s1 rfl) (by decide) (Nat.le_of_ble_eq_true rfl) (Nat.le_refl _) (fun r1 σ1 hr1 pσ1 => ?_)
  obtain ⟨hσ1, hfσ1, pσ1⟩ := pσ1
  have hFσ1 := zc_Fc hfσ1 rfl hFσ
  refine zr_iload_n (pc := 4) hV dX8_takes_4 rfl rfl ?_
  refine zr_icmp_eq (pc := 5) hV 10 dX8_takes_5 (by decide) (by omega) (by omega) (fun c1 => ?_) (fun c1 => ?_)
  · show V 10 [some (ZR 1), some (ZI wanted)] [] 284 σ1
    refine zr_aload_n (pc := 10) hV dX8_takes_10 rfl rfl ?_
    refine zr_callVv (pc := 11) hV [] (st := []) (c_X8_pass (σ := σ1) hσ1) dX8_takes_11 mX8_26 (zc_k1 zc_s1) (zc_pos zc_s1 rfl) (by decide) (Nat.le_of_ble_eq_true rfl) (Nat.le_refl _) (fun σ11 pσ11 => ?_)
    obtain ⟨hσ11, hfσ11, pσ11⟩ := pσ11
    have hFσ11 := zc_Fc hfσ11 rfl hFσ1
    refine zr_iconst (pc := 14) hV 1 dX8_takes_14 rfl ?_
    exact zr_zret (pc := 15) hV dX8_takes_15 rfl rfl (by omega) ⟨_, rfl, ⟨by decide, by decide⟩, hσ11, hFσ11, (by omega)⟩
  · show V 8 [some (ZR 1), some (ZI wanted)] [] 284 σ1
    refine zr_iconst (pc := 8) hV 0 dX8_takes_8 rfl ?_
    exact zr_zret (pc := 9) hV dX8_takes_9 rfl rfl (by omega) ⟨_, rfl, ⟨by decide, by decide⟩, hσ1, hFσ1, (by omega)⟩
set_option maxHeartbeats 800000 in
theorem c_X8_takeName {σ : zq_S} (hσ : zc_T σ)   : zq_C zc_w yX8_takeName cX8_takeName 2 (some .int) 1 20 284 284 [ZR 1] σ (zq_pi (fun r τ => zc_T τ ∧ zc_Fr [(1, 2), (1, 3)] σ τ ∧ (True))) := by
  refine zq_C_of (by decide) (Nat.le_refl _) (Nat.le_of_ble_eq_true rfl) [some (ZR 1), none] rfl (fun V hV => ?_)
  have hFσ := zc_Fr_rf [(1, 2), (1, 3)] σ
  show V 0 [some (ZR 1), none] [] 284 σ
  refine zr_aload_n (pc := 0) hV dX8_takeName_0 rfl rfl ?_
  refine zr_callVi (pc := 1) hV [] (st := []) (c_X8_next (σ := σ) hσ) dX8_takeName_1 mX8_22 (zc_k1 zc_s1) (zc_pos zc_s1 rfl) (by decide) (Nat.le_of_ble_eq_true rfl) (Nat.le_refl _) (fun r1 σ1 hr1 pσ1 => ?_)
  obtain ⟨hσ1, hfσ1, pσ1⟩ := pσ1
  have hFσ1 := zc_Fc hfσ1 rfl hFσ
  refine zr_pop (pc := 4) hV dX8_takeName_4 (fun _ => rfl) ?_
  refine zr_aload_n (pc := 5) hV dX8_takeName_5 rfl rfl ?_
  refine zr_aload_n (pc := 6) hV dX8_takeName_6 rfl rfl ?_
  refine zr_getI (pc := 7) hV 2 dX8_takeName_7 fX8_19 rfl rfl (zc_k1 zc_s1) (zc_pos zc_s1 rfl) ?_
  have t1 := zc_g1_2 hσ1 zc_s1
  refine zr_putI (pc := 10) hV 3 dX8_takeName_10 fX8_29 rfl rfl rfl (zc_k1 zc_s1) (zc_pos zc_s1 rfl) (fun σ10 eσ10 => ?_)
  have hσ10 : zc_T σ10 := zc_u1_3 eσ10 hσ1 zc_s1 (by omega)
  have hFσ10 := zc_Fw eσ10 zc_s1 rfl hFσ1
  refine zr_iconst (pc := 13) hV 0 dX8_takeName_13 rfl ?_
  refine zr_istore_n (pc := 14) hV [some (ZR 1), some (ZI 0)] dX8_takeName_14 rfl (by decide) rfl rfl ?_
  have L15 : ∀ (fuel : Nat) (x1_15 : Int) (σ_15 : zq_S), ((-2147483648) ≤ x1_15 ∧ x1_15 ≤ 2147483647) → (zc_T σ_15) → (zc_Fr [(1, 2), (1, 3)] σ σ_15) → 80 - σ_15 1 2 < (fuel : Int) → V 15 [some (ZR 1), some (ZI x1_15)] [] 284 σ_15 := by
    intro fuel
    induction fuel with
    | zero =>
      intro x1_15 σ_15 hx1_15 hσ_15 hFσ_15 hm15
      have t2 := zc_g1_2 hσ_15 zc_s1
      exfalso; omega
    | succ fuel ih =>
      intro x1_15 σ_15 hx1_15 hσ_15 hFσ_15 hm15
      have ih15 := ih
      show V 15 [some (ZR 1), some (ZI x1_15)] [] 284 σ_15
      refine zr_aload_n (pc := 15) hV dX8_takeName_15 rfl rfl ?_
      refine zr_getI (pc := 16) hV 2 dX8_takeName_16 fX8_19 rfl rfl (zc_k1 zc_s1) (zc_pos zc_s1 rfl) ?_
      have t3 := zc_g1_2 hσ_15 zc_s1
      refine zr_aload_n (pc := 19) hV dX8_takeName_19 rfl rfl ?_
      refine zr_getI (pc := 20) hV 1 dX8_takeName_20 fX8_15 rfl rfl (zc_k1 zc_s1) (zc_pos zc_s1 rfl) ?_
      have t4 := zc_g1_1 hσ_15 zc_s1
      have t5 : σ_15 1 1 = σ 1 1 := hFσ_15 _ _ (zc_out_at zc_s1 rfl)
      refine zr_icmp_ge (pc := 23) hV 96 dX8_takeName_23 (by decide) (by omega) (by omega) (fun c6 => ?_) (fun c6 => ?_)
      · show V 96 [some (ZR 1), some (ZI x1_15)] [] 284 σ_15
        refine zr_iload_n (pc := 96) hV dX8_takeName_96 rfl rfl ?_
        exact zr_iret (pc := 97) hV dX8_takeName_97 rfl rfl ⟨_, rfl, (by omega), hσ_15, hFσ_15, trivial⟩
      · show V 26 [some (ZR 1), some (ZI x1_15)] [] 284 σ_15
        refine zr_aload_n (pc := 26) hV dX8_takeName_26 rfl rfl ?_
        refine zr_getI (pc := 27) hV 2 dX8_takeName_27 fX8_19 rfl rfl (zc_k1 zc_s1) (zc_pos zc_s1 rfl) ?_
        have t7 := zc_g1_2 hσ_15 zc_s1
        refine zr_aload_n (pc := 30) hV dX8_takeName_30 rfl rfl ?_
        refine zr_getI (pc := 31) hV 3 dX8_takeName_31 fX8_29 rfl rfl (zc_k1 zc_s1) (zc_pos zc_s1 rfl) ?_
        have t8 := zc_g1_3 hσ_15 zc_s1
        refine zr_iconst (pc := 34) hV 3 dX8_takeName_34 rfl ?_
        refine zr_iadd (pc := 35) hV dX8_takeName_35 ?_
        refine zr_icmp_ge (pc := 36) hV 96 dX8_takeName_36 (by decide) (by omega) (by omega) (fun c9 => ?_) (fun c9 => ?_)
        · show V 96 [some (ZR 1), some (ZI x1_15)] [] 284 σ_15
          refine zr_iload_n (pc := 96) hV dX8_takeName_96 rfl rfl ?_
          exact zr_iret (pc := 97) hV dX8_takeName_97 rfl rfl ⟨_, rfl, (by omega), hσ_15, hFσ_15, trivial⟩
        · show V 39 [some (ZR 1), some (ZI x1_15)] [] 284 σ_15
          refine zr_aload_n (pc := 39) hV dX8_takeName_39 rfl rfl ?_
          refine zr_getR (pc := 40) hV 0 2 dX8_takeName_40 fX8_11 rfl rfl (zc_k1 zc_s1) (zc_pos zc_s1 rfl) (zc_g1_0 hσ_15 zc_s1) (by decide) ?_
          refine zr_aload_n (pc := 43) hV dX8_takeName_43 rfl rfl ?_
          refine zr_getI (pc := 44) hV 2 dX8_takeName_44 fX8_19 rfl rfl (zc_k1 zc_s1) (zc_pos zc_s1 rfl) ?_
          have t10 := zc_g1_2 hσ_15 zc_s1
          refine zr_iald (pc := 47) hV dX8_takeName_47 (zc_k2 zc_s2) (zc_pos zc_s2 rfl) rfl (by omega) ?_
          have t11 := zc_ga2 hσ_15 zc_s2 (σ_15 1 2)
          have t12 : σ_15 2 (σ_15 1 2) = σ 2 (σ_15 1 2) := hFσ_15 _ _ (zc_out_ar zc_s2 rfl)
          refine zr_bipush (pc := 48) hV 97 dX8_takeName_48 (by decide) ?_
          refine zr_icmp_lt (pc := 50) hV 96 dX8_takeName_50 (by decide) (by omega) ⟨by decide, by decide⟩ (fun c13 => ?_) (fun c13 => ?_)
          · show V 96 [some (ZR 1), some (ZI x1_15)] [] 284 σ_15
            refine zr_iload_n (pc := 96) hV dX8_takeName_96 rfl rfl ?_
            exact zr_iret (pc := 97) hV dX8_takeName_97 rfl rfl ⟨_, rfl, (by omega), hσ_15, hFσ_15, trivial⟩
          · show V 53 [some (ZR 1), some (ZI x1_15)] [] 284 σ_15
            refine zr_aload_n (pc := 53) hV dX8_takeName_53 rfl rfl ?_
            refine zr_getR (pc := 54) hV 0 2 dX8_takeName_54 fX8_11 rfl rfl (zc_k1 zc_s1) (zc_pos zc_s1 rfl) (zc_g1_0 hσ_15 zc_s1) (by decide) ?_
            refine zr_aload_n (pc := 57) hV dX8_takeName_57 rfl rfl ?_
            refine zr_getI (pc := 58) hV 2 dX8_takeName_58 fX8_19 rfl rfl (zc_k1 zc_s1) (zc_pos zc_s1 rfl) ?_
            have t14 := zc_g1_2 hσ_15 zc_s1
            refine zr_iald (pc := 61) hV dX8_takeName_61 (zc_k2 zc_s2) (zc_pos zc_s2 rfl) rfl (by omega) ?_
            have t15 := zc_ga2 hσ_15 zc_s2 (σ_15 1 2)
            have t16 : σ_15 2 (σ_15 1 2) = σ 2 (σ_15 1 2) := hFσ_15 _ _ (zc_out_ar zc_s2 rfl)
            refine zr_bipush (pc := 62) hV 122 dX8_takeName_62 (by decide) ?_
            refine zr_icmp_gt (pc := 64) hV 96 dX8_takeName_64 (by decide) (by omega) ⟨by decide, by decide⟩ (fun c17 => ?_) (fun c17 => ?_)
            · show V 96 [some (ZR 1), some (ZI x1_15)] [] 284 σ_15
              refine zr_iload_n (pc := 96) hV dX8_takeName_96 rfl rfl ?_
              exact zr_iret (pc := 97) hV dX8_takeName_97 rfl rfl ⟨_, rfl, (by omega), hσ_15, hFσ_15, trivial⟩
            · show V 67 [some (ZR 1), some (ZI x1_15)] [] 284 σ_15
              refine zr_iload_n (pc := 67) hV dX8_takeName_67 rfl rfl ?_
              refine zr_sipush (pc := 68) hV 256 dX8_takeName_68 (by decide) ?_
              refine zr_imul (pc := 71) hV dX8_takeName_71 ?_
              refine zr_any (pc := 72) hV (fun y72 hy72 _ => ?_)
              refine zr_aload_n (pc := 72) hV dX8_takeName_72 rfl rfl ?_
              refine zr_getR (pc := 73) hV 0 2 dX8_takeName_73 fX8_11 rfl rfl (zc_k1 zc_s1) (zc_pos zc_s1 rfl) (zc_g1_0 hσ_15 zc_s1) (by decide) ?_
              refine zr_aload_n (pc := 76) hV dX8_takeName_76 rfl rfl ?_
              refine zr_getI (pc := 77) hV 2 dX8_takeName_77 fX8_19 rfl rfl (zc_k1 zc_s1) (zc_pos zc_s1 rfl) ?_
              have t18 := zc_g1_2 hσ_15 zc_s1
              refine zr_iald (pc := 80) hV dX8_takeName_80 (zc_k2 zc_s2) (zc_pos zc_s2 rfl) rfl (by omega) ?_
              have t19 := zc_ga2 hσ_15 zc_s2 (σ_15 1 2)
              have t20 : σ_15 2 (σ_15 1 2) = σ 2 (σ_15 1 2) := hFσ_15 _ _ (zc_out_ar zc_s2 rfl)
              refine zr_iadd (pc := 81) hV dX8_takeName_81 ?_
              refine zr_any (pc := 82) hV (fun y82 hy82 _ => ?_)
              refine zr_istore_n (pc := 82) hV [some (ZR 1), some (ZI y82)] dX8_takeName_82 rfl (by decide) rfl rfl ?_
              refine zr_aload_n (pc := 83) hV dX8_takeName_83 rfl rfl ?_
              refine zr_dup (pc := 84) hV dX8_takeName_84 (fun _ => rfl) ?_
              refine zr_getI (pc := 85) hV 2 dX8_takeName_85 fX8_19 rfl rfl (zc_k1 zc_s1) (zc_pos zc_s1 rfl) ?_
              have t21 := zc_g1_2 hσ_15 zc_s1
              refine zr_iconst (pc := 88) hV 1 dX8_takeName_88 rfl ?_
              refine zr_iadd (pc := 89) hV dX8_takeName_89 ?_
              refine zr_putI (pc := 90) hV 2 dX8_takeName_90 fX8_19 rfl rfl rfl (zc_k1 zc_s1) (zc_pos zc_s1 rfl) (fun σ90 eσ90 => ?_)
              have hσ90 : zc_T σ90 := zc_u1_2 eσ90 hσ_15 zc_s1 (by omega)
              have hFσ90 := zc_Fw eσ90 zc_s1 rfl hFσ_15
              refine zr_goto (pc := 93) hV 15 dX8_takeName_93 (by decide) ?_
              have t22 := zc_g1_2 hσ90 zc_s1
              have t23 : σ90 1 2 = (σ_15 1 2) + 1 := by rw [eσ90]; exact zq_up_same _ _ _ _
              exact ih15 y82 σ90 (by omega) hσ90 hFσ90 (by omega)
  have t24 := zc_g1_2 hσ10 zc_s1
  have t25 : σ10 1 2 = σ1 1 2 := by rw [eσ10]; exact zq_up_ne (by omega)
  exact L15 (80 - σ10 1 2 + 1 : Int).toNat 0 σ10 (by omega) hσ10 hFσ10 (by omega)
set_option maxHeartbeats 800000 in
theorem c_X8_isDigit {σ : zq_S} (c : Int) (q0 : zq_in c) : zq_C zc_w yX8_isDigit cX8_isDigit 1 (some .boolean) 0 0 284 284 [ZI c] σ (zq_pp σ (fun r => (0 ≤ r ∧ r ≤ 1) ∧ (r = 1 ↔ 48 ≤ c ∧ c ≤ 57))) := by
  refine zq_C_of (by decide) (Nat.le_refl _) (Nat.le_of_ble_eq_true rfl) [some (ZI c)] rfl (fun V hV => ?_)
  show V 0 [some (ZI c)] [] 284 σ
  refine zr_iload_n (pc := 0) hV dX8_isDigit_0 rfl rfl ?_
  refine zr_bipush (pc := 1) hV 48 dX8_isDigit_1 (by decide) ?_
  refine zr_icmp_lt (pc := 3) hV 16 dX8_isDigit_3 (by decide) (by omega) ⟨by decide, by decide⟩ (fun c1 => ?_) (fun c1 => ?_)
  · show V 16 [some (ZI c)] [] 284 σ
    refine zr_iconst (pc := 16) hV 0 dX8_isDigit_16 rfl ?_
    show V 17 [some (ZI c)] [ZI 0] 284 σ
    exact zr_zret (pc := 17) hV dX8_isDigit_17 rfl rfl (by omega) ⟨rfl, _, rfl, ⟨by decide, by decide⟩, (by omega)⟩
  · show V 6 [some (ZI c)] [] 284 σ
    refine zr_iload_n (pc := 6) hV dX8_isDigit_6 rfl rfl ?_
    refine zr_bipush (pc := 7) hV 57 dX8_isDigit_7 (by decide) ?_
    refine zr_icmp_gt (pc := 9) hV 16 dX8_isDigit_9 (by decide) (by omega) ⟨by decide, by decide⟩ (fun c2 => ?_) (fun c2 => ?_)
    · show V 16 [some (ZI c)] [] 284 σ
      refine zr_iconst (pc := 16) hV 0 dX8_isDigit_16 rfl ?_
      show V 17 [some (ZI c)] [ZI 0] 284 σ
      exact zr_zret (pc := 17) hV dX8_isDigit_17 rfl rfl (by omega) ⟨rfl, _, rfl, ⟨by decide, by decide⟩, (by omega)⟩
    · show V 12 [some (ZI c)] [] 284 σ
      refine zr_iconst (pc := 12) hV 1 dX8_isDigit_12 rfl ?_
      refine zr_goto (pc := 13) hV 17 dX8_isDigit_13 (by decide) ?_
      show V 17 [some (ZI c)] [ZI 1] 284 σ
      exact zr_zret (pc := 17) hV dX8_isDigit_17 rfl rfl (by omega) ⟨rfl, _, rfl, ⟨by decide, by decide⟩, (by omega)⟩
set_option maxHeartbeats 800000 in
theorem c_X8_isSign {σ : zq_S} (c : Int) (q0 : zq_in c) : zq_C zc_w yX8_isSign cX8_isSign 1 (some .boolean) 0 0 284 284 [ZI c] σ (zq_pp σ (fun r => (0 ≤ r ∧ r ≤ 1))) := by
  refine zq_C_of (by decide) (Nat.le_refl _) (Nat.le_of_ble_eq_true rfl) [some (ZI c)] rfl (fun V hV => ?_)
  show V 0 [some (ZI c)] [] 284 σ
  refine zr_iload_n (pc := 0) hV dX8_isSign_0 rfl rfl ?_
  refine zr_bipush (pc := 1) hV 43 dX8_isSign_1 (by decide) ?_
  refine zr_icmp_eq (pc := 3) hV 36 dX8_isSign_3 (by decide) (by omega) ⟨by decide, by decide⟩ (fun c1 => ?_) (fun c1 => ?_)
  · show V 36 [some (ZI c)] [] 284 σ
    refine zr_iconst (pc := 36) hV 1 dX8_isSign_36 rfl ?_
    refine zr_goto (pc := 37) hV 41 dX8_isSign_37 (by decide) ?_
    show V 41 [some (ZI c)] [ZI 1] 284 σ
    exact zr_zret (pc := 41) hV dX8_isSign_41 rfl rfl (by omega) ⟨rfl, _, rfl, ⟨by decide, by decide⟩, (by omega)⟩
  · show V 6 [some (ZI c)] [] 284 σ
    refine zr_iload_n (pc := 6) hV dX8_isSign_6 rfl rfl ?_
    refine zr_bipush (pc := 7) hV 45 dX8_isSign_7 (by decide) ?_
    refine zr_icmp_eq (pc := 9) hV 36 dX8_isSign_9 (by decide) (by omega) ⟨by decide, by decide⟩ (fun c2 => ?_) (fun c2 => ?_)
    · show V 36 [some (ZI c)] [] 284 σ
      refine zr_iconst (pc := 36) hV 1 dX8_isSign_36 rfl ?_
      refine zr_goto (pc := 37) hV 41 dX8_isSign_37 (by decide) ?_
      show V 41 [some (ZI c)] [ZI 1] 284 σ
      exact zr_zret (pc := 41) hV dX8_isSign_41 rfl rfl (by omega) ⟨rfl, _, rfl, ⟨by decide, by decide⟩, (by omega)⟩
    · show V 12 [some (ZI c)] [] 284 σ
      refine zr_iload_n (pc := 12) hV dX8_isSign_12 rfl rfl ?_
      refine zr_bipush (pc := 13) hV 38 dX8_isSign_13 (by decide) ?_
      refine zr_icmp_eq (pc := 15) hV 36 dX8_isSign_15 (by decide) (by omega) ⟨by decide, by decide⟩ (fun c3 => ?_) (fun c3 => ?_)
      · show V 36 [some (ZI c)] [] 284 σ
        refine zr_iconst (pc := 36) hV 1 dX8_isSign_36 rfl ?_
        refine zr_goto (pc := 37) hV 41 dX8_isSign_37 (by decide) ?_
        show V 41 [some (ZI c)] [ZI 1] 284 σ
        exact zr_zret (pc := 41) hV dX8_isSign_41 rfl rfl (by omega) ⟨rfl, _, rfl, ⟨by decide, by decide⟩, (by omega)⟩
      · show V 18 [some (ZI c)] [] 284 σ
        refine zr_iload_n (pc := 18) hV dX8_isSign_18 rfl rfl ?_
        refine zr_bipush (pc := 19) hV 124 dX8_isSign_19 (by decide) ?_
        refine zr_icmp_eq (pc := 21) hV 36 dX8_isSign_21 (by decide) (by omega) ⟨by decide, by decide⟩ (fun c4 => ?_) (fun c4 => ?_)
        · show V 36 [some (ZI c)] [] 284 σ
          refine zr_iconst (pc := 36) hV 1 dX8_isSign_36 rfl ?_
          refine zr_goto (pc := 37) hV 41 dX8_isSign_37 (by decide) ?_
          show V 41 [some (ZI c)] [ZI 1] 284 σ
          exact zr_zret (pc := 41) hV dX8_isSign_41 rfl rfl (by omega) ⟨rfl, _, rfl, ⟨by decide, by decide⟩, (by omega)⟩
        · show V 24 [some (ZI c)] [] 284 σ
          refine zr_iload_n (pc := 24) hV dX8_isSign_24 rfl rfl ?_
          refine zr_bipush (pc := 25) hV 94 dX8_isSign_25 (by decide) ?_
          refine zr_icmp_eq (pc := 27) hV 36 dX8_isSign_27 (by decide) (by omega) ⟨by decide, by decide⟩ (fun c5 => ?_) (fun c5 => ?_)
          · show V 36 [some (ZI c)] [] 284 σ
            refine zr_iconst (pc := 36) hV 1 dX8_isSign_36 rfl ?_
            refine zr_goto (pc := 37) hV 41 dX8_isSign_37 (by decide) ?_
            show V 41 [some (ZI c)] [ZI 1] 284 σ
            exact zr_zret (pc := 41) hV dX8_isSign_41 rfl rfl (by omega) ⟨rfl, _, rfl, ⟨by decide, by decide⟩, (by omega)⟩
          · show V 30 [some (ZI c)] [] 284 σ
            refine zr_iload_n (pc := 30) hV dX8_isSign_30 rfl rfl ?_
            refine zr_bipush (pc := 31) hV 60 dX8_isSign_31 (by decide) ?_
            refine zr_icmp_ne (pc := 33) hV 40 dX8_isSign_33 (by decide) (by omega) ⟨by decide, by decide⟩ (fun c6 => ?_) (fun c6 => ?_)
            · show V 40 [some (ZI c)] [] 284 σ
              refine zr_iconst (pc := 40) hV 0 dX8_isSign_40 rfl ?_
              show V 41 [some (ZI c)] [ZI 0] 284 σ
              exact zr_zret (pc := 41) hV dX8_isSign_41 rfl rfl (by omega) ⟨rfl, _, rfl, ⟨by decide, by decide⟩, (by omega)⟩
            · show V 36 [some (ZI c)] [] 284 σ
              refine zr_iconst (pc := 36) hV 1 dX8_isSign_36 rfl ?_
              refine zr_goto (pc := 37) hV 41 dX8_isSign_37 (by decide) ?_
              show V 41 [some (ZI c)] [ZI 1] 284 σ
              exact zr_zret (pc := 41) hV dX8_isSign_41 rfl rfl (by omega) ⟨rfl, _, rfl, ⟨by decide, by decide⟩, (by omega)⟩
set_option maxHeartbeats 800000 in
theorem c_X8_takeNumber {σ : zq_S} (hσ : zc_T σ) (most : Int) (q0 : zq_in most) : zq_C zc_w yX8_takeNumber cX8_takeNumber 3 (some .int) 1 21 284 284 [ZR 1, ZI most] σ (zq_pi (fun r τ => zc_T τ ∧ zc_Fr [(1, 2), (1, 3)] σ τ ∧ (((-1) ≤ r ∧ r ≤ 1000) ∧ (r = -1 ∨ r ≤ most)))) := by
  refine zq_C_of (by decide) (Nat.le_refl _) (Nat.le_of_ble_eq_true rfl) [some (ZR 1), some (ZI most), none] rfl (fun V hV => ?_)
  have hFσ := zc_Fr_rf [(1, 2), (1, 3)] σ
  show V 0 [some (ZR 1), some (ZI most), none] [] 284 σ
  refine zr_aload_n (pc := 0) hV dX8_takeNumber_0 rfl rfl ?_
  refine zr_callVi (pc := 1) hV [] (st := []) (c_X8_next (σ := σ) hσ) dX8_takeNumber_1 mX8_22 (zc_k1 zc_s1) (zc_pos zc_s1 rfl) (by decide) (Nat.le_of_ble_eq_true rfl) (Nat.le_refl _) (fun r1 σ1 hr1 pσ1 => ?_)
  obtain ⟨hσ1, hfσ1, pσ1⟩ := pσ1
  have hFσ1 := zc_Fc hfσ1 rfl hFσ
  refine zr_callSp (pc := 4) hV [ZI r1] (st := []) (c_X8_isDigit (σ := σ1) r1 (by omega)) dX8_takeNumber_4 mX8_32 (by decide) (Nat.le_of_ble_eq_true rfl) (Nat.le_refl _) (fun r4 hr4 pr4 => ?_)
  refine zr_if_ne (pc := 7) hV 12 dX8_takeNumber_7 (by decide) (by omega) (fun c1 => ?_) (fun c1 => ?_)
  · show V 12 [some (ZR 1), some (ZI most), none] [] 284 σ1
    refine zr_aload_n (pc := 12) hV dX8_takeNumber_12 rfl rfl ?_
    refine zr_aload_n (pc := 13) hV dX8_takeNumber_13 rfl rfl ?_
    refine zr_getI (pc := 14) hV 2 dX8_takeNumber_14 fX8_19 rfl rfl (zc_k1 zc_s1) (zc_pos zc_s1 rfl) ?_
    have t2 := zc_g1_2 hσ1 zc_s1
    refine zr_putI (pc := 17) hV 3 dX8_takeNumber_17 fX8_29 rfl rfl rfl (zc_k1 zc_s1) (zc_pos zc_s1 rfl) (fun σ17 eσ17 => ?_)
    have hσ17 : zc_T σ17 := zc_u1_3 eσ17 hσ1 zc_s1 (by omega)
    have hFσ17 := zc_Fw eσ17 zc_s1 rfl hFσ1
    refine zr_iconst (pc := 20) hV 0 dX8_takeNumber_20 rfl ?_
    refine zr_istore_n (pc := 21) hV [some (ZR 1), some (ZI most), some (ZI 0)] dX8_takeNumber_21 rfl (by decide) rfl rfl ?_
    have L22 : ∀ (fuel : Nat) (x2_22 : Int) (σ_22 : zq_S), (0 ≤ x2_22 ∧ x2_22 ≤ 1000) → (zc_T σ_22) → (zc_Fr [(1, 2), (1, 3)] σ σ_22) → 80 - σ_22 1 2 < (fuel : Int) → V 22 [some (ZR 1), some (ZI most), some (ZI x2_22)] [] 284 σ_22 := by
      intro fuel
      induction fuel with
      | zero =>
        intro x2_22 σ_22 hx2_22 hσ_22 hFσ_22 hm22
        have t3 := zc_g1_2 hσ_22 zc_s1
        exfalso; omega
      | succ fuel ih =>
        intro x2_22 σ_22 hx2_22 hσ_22 hFσ_22 hm22
        have ih22 := ih
        show V 22 [some (ZR 1), some (ZI most), some (ZI x2_22)] [] 284 σ_22
        refine zr_aload_n (pc := 22) hV dX8_takeNumber_22 rfl rfl ?_
        refine zr_getI (pc := 23) hV 2 dX8_takeNumber_23 fX8_19 rfl rfl (zc_k1 zc_s1) (zc_pos zc_s1 rfl) ?_
        have t4 := zc_g1_2 hσ_22 zc_s1
        refine zr_aload_n (pc := 26) hV dX8_takeNumber_26 rfl rfl ?_
        refine zr_getI (pc := 27) hV 1 dX8_takeNumber_27 fX8_15 rfl rfl (zc_k1 zc_s1) (zc_pos zc_s1 rfl) ?_
        have t5 := zc_g1_1 hσ_22 zc_s1
        have t6 : σ_22 1 1 = σ 1 1 := hFσ_22 _ _ (zc_out_at zc_s1 rfl)
        refine zr_icmp_ge (pc := 30) hV 85 dX8_takeNumber_30 (by decide) (by omega) (by omega) (fun c7 => ?_) (fun c7 => ?_)
        · show V 85 [some (ZR 1), some (ZI most), some (ZI x2_22)] [] 284 σ_22
          refine zr_iload_n (pc := 85) hV dX8_takeNumber_85 rfl rfl ?_
          refine zr_iload_n (pc := 86) hV dX8_takeNumber_86 rfl rfl ?_
          refine zr_icmp_le (pc := 87) hV 96 dX8_takeNumber_87 (by decide) (by omega) (by omega) (fun c8 => ?_) (fun c8 => ?_)
          · show V 96 [some (ZR 1), some (ZI most), some (ZI x2_22)] [] 284 σ_22
            refine zr_iload_n (pc := 96) hV dX8_takeNumber_96 rfl rfl ?_
            exact zr_iret (pc := 97) hV dX8_takeNumber_97 rfl rfl ⟨_, rfl, (by omega), hσ_22, hFσ_22, (by omega)⟩
          · show V 90 [some (ZR 1), some (ZI most), some (ZI x2_22)] [] 284 σ_22
            refine zr_aload_n (pc := 90) hV dX8_takeNumber_90 rfl rfl ?_
            refine zr_callVv (pc := 91) hV [] (st := []) (c_X8_blameWord (σ := σ_22) hσ_22) dX8_takeNumber_91 mX8_42 (zc_k1 zc_s1) (zc_pos zc_s1 rfl) (by decide) (Nat.le_of_ble_eq_true rfl) (Nat.le_refl _) (fun σ91 pσ91 => ?_)
            obtain ⟨hσ91, hfσ91, pσ91⟩ := pσ91
            have hFσ91 := zc_Fc hfσ91 rfl hFσ_22
            refine zr_iconst (pc := 94) hV (-1) dX8_takeNumber_94 rfl ?_
            exact zr_iret (pc := 95) hV dX8_takeNumber_95 rfl rfl ⟨_, rfl, ⟨by decide, by decide⟩, hσ91, hFσ91, (by omega)⟩
        · show V 33 [some (ZR 1), some (ZI most), some (ZI x2_22)] [] 284 σ_22
          refine zr_aload_n (pc := 33) hV dX8_takeNumber_33 rfl rfl ?_
          refine zr_getR (pc := 34) hV 0 2 dX8_takeNumber_34 fX8_11 rfl rfl (zc_k1 zc_s1) (zc_pos zc_s1 rfl) (zc_g1_0 hσ_22 zc_s1) (by decide) ?_
          refine zr_aload_n (pc := 37) hV dX8_takeNumber_37 rfl rfl ?_
          refine zr_getI (pc := 38) hV 2 dX8_takeNumber_38 fX8_19 rfl rfl (zc_k1 zc_s1) (zc_pos zc_s1 rfl) ?_
          have t9 := zc_g1_2 hσ_22 zc_s1
          refine zr_iald (pc := 41) hV dX8_takeNumber_41 (zc_k2 zc_s2) (zc_pos zc_s2 rfl) rfl (by omega) ?_
          have t10 := zc_ga2 hσ_22 zc_s2 (σ_22 1 2)
          have t11 : σ_22 2 (σ_22 1 2) = σ 2 (σ_22 1 2) := hFσ_22 _ _ (zc_out_ar zc_s2 rfl)
          have t12 := zc_g1_2 hσ_22 zc_s1
          refine zr_callSp (pc := 42) hV [ZI (σ_22 2 (σ_22 1 2))] (st := []) (c_X8_isDigit (σ := σ_22) (σ_22 2 (σ_22 1 2)) (by omega)) dX8_takeNumber_42 mX8_32 (by decide) (Nat.le_of_ble_eq_true rfl) (Nat.le_refl _) (fun r42 hr42 pr42 => ?_)
          have t13 := zc_g1_2 hσ_22 zc_s1
          refine zr_if_eq (pc := 45) hV 85 dX8_takeNumber_45 (by decide) (by omega) (fun c14 => ?_) (fun c14 => ?_)
          · show V 85 [some (ZR 1), some (ZI most), some (ZI x2_22)] [] 284 σ_22
            refine zr_iload_n (pc := 85) hV dX8_takeNumber_85 rfl rfl ?_
            refine zr_iload_n (pc := 86) hV dX8_takeNumber_86 rfl rfl ?_
            refine zr_icmp_le (pc := 87) hV 96 dX8_takeNumber_87 (by decide) (by omega) (by omega) (fun c15 => ?_) (fun c15 => ?_)
            · show V 96 [some (ZR 1), some (ZI most), some (ZI x2_22)] [] 284 σ_22
              refine zr_iload_n (pc := 96) hV dX8_takeNumber_96 rfl rfl ?_
              exact zr_iret (pc := 97) hV dX8_takeNumber_97 rfl rfl ⟨_, rfl, (by omega), hσ_22, hFσ_22, (by omega)⟩
            · show V 90 [some (ZR 1), some (ZI most), some (ZI x2_22)] [] 284 σ_22
              refine zr_aload_n (pc := 90) hV dX8_takeNumber_90 rfl rfl ?_
              refine zr_callVv (pc := 91) hV [] (st := []) (c_X8_blameWord (σ := σ_22) hσ_22) dX8_takeNumber_91 mX8_42 (zc_k1 zc_s1) (zc_pos zc_s1 rfl) (by decide) (Nat.le_of_ble_eq_true rfl) (Nat.le_refl _) (fun σ91 pσ91 => ?_)
              obtain ⟨hσ91, hfσ91, pσ91⟩ := pσ91
              have hFσ91 := zc_Fc hfσ91 rfl hFσ_22
              refine zr_iconst (pc := 94) hV (-1) dX8_takeNumber_94 rfl ?_
              exact zr_iret (pc := 95) hV dX8_takeNumber_95 rfl rfl ⟨_, rfl, ⟨by decide, by decide⟩, hσ91, hFσ91, (by omega)⟩
          · show V 48 [some (ZR 1), some (ZI most), some (ZI x2_22)] [] 284 σ_22
            refine zr_iload_n (pc := 48) hV dX8_takeNumber_48 rfl rfl ?_
            refine zr_bipush (pc := 49) hV 10 dX8_takeNumber_49 (by decide) ?_
            refine zr_imul (pc := 51) hV dX8_takeNumber_51 ?_
            refine zr_aload_n (pc := 52) hV dX8_takeNumber_52 rfl rfl ?_
            refine zr_getR (pc := 53) hV 0 2 dX8_takeNumber_53 fX8_11 rfl rfl (zc_k1 zc_s1) (zc_pos zc_s1 rfl) (zc_g1_0 hσ_22 zc_s1) (by decide) ?_
            refine zr_aload_n (pc := 56) hV dX8_takeNumber_56 rfl rfl ?_
            refine zr_getI (pc := 57) hV 2 dX8_takeNumber_57 fX8_19 rfl rfl (zc_k1 zc_s1) (zc_pos zc_s1 rfl) ?_
            have t16 := zc_g1_2 hσ_22 zc_s1
            refine zr_iald (pc := 60) hV dX8_takeNumber_60 (zc_k2 zc_s2) (zc_pos zc_s2 rfl) rfl (by omega) ?_
            have t17 := zc_ga2 hσ_22 zc_s2 (σ_22 1 2)
            have t18 : σ_22 2 (σ_22 1 2) = σ 2 (σ_22 1 2) := hFσ_22 _ _ (zc_out_ar zc_s2 rfl)
            refine zr_iadd (pc := 61) hV dX8_takeNumber_61 ?_
            refine zr_bipush (pc := 62) hV 48 dX8_takeNumber_62 (by decide) ?_
            refine zr_isub (pc := 64) hV dX8_takeNumber_64 ?_
            refine zr_sipush (pc := 65) hV 1000 dX8_takeNumber_65 (by decide) ?_
            refine zr_min (pc := 68) hV (st := []) dX8_takeNumber_68 lX8_36 (by omega) ⟨by decide, by decide⟩ (Nat.le_of_ble_eq_true rfl) rfl rfl (fun r68 pr68 qr68 => ?_)
            refine zr_istore_n (pc := 71) hV [some (ZR 1), some (ZI most), some (ZI r68)] dX8_takeNumber_71 rfl (by decide) rfl rfl ?_
            refine zr_aload_n (pc := 72) hV dX8_takeNumber_72 rfl rfl ?_
            refine zr_dup (pc := 73) hV dX8_takeNumber_73 (fun _ => rfl) ?_
            refine zr_getI (pc := 74) hV 2 dX8_takeNumber_74 fX8_19 rfl rfl (zc_k1 zc_s1) (zc_pos zc_s1 rfl) ?_
            have t19 := zc_g1_2 hσ_22 zc_s1
            refine zr_iconst (pc := 77) hV 1 dX8_takeNumber_77 rfl ?_
            refine zr_iadd (pc := 78) hV dX8_takeNumber_78 ?_
            refine zr_putI (pc := 79) hV 2 dX8_takeNumber_79 fX8_19 rfl rfl rfl (zc_k1 zc_s1) (zc_pos zc_s1 rfl) (fun σ79 eσ79 => ?_)
            have hσ79 : zc_T σ79 := zc_u1_2 eσ79 hσ_22 zc_s1 (by omega)
            have hFσ79 := zc_Fw eσ79 zc_s1 rfl hFσ_22
            refine zr_goto (pc := 82) hV 22 dX8_takeNumber_82 (by decide) ?_
            have t20 := zc_g1_2 hσ79 zc_s1
            have t21 : σ79 1 2 = (σ_22 1 2) + 1 := by rw [eσ79]; exact zq_up_same _ _ _ _
            exact ih22 r68 σ79 (by omega) hσ79 hFσ79 (by omega)
    have t22 := zc_g1_2 hσ17 zc_s1
    have t23 : σ17 1 2 = σ1 1 2 := by rw [eσ17]; exact zq_up_ne (by omega)
    exact L22 (80 - σ17 1 2 + 1 : Int).toNat 0 σ17 (by omega) hσ17 hFσ17 (by omega)
  · show V 10 [some (ZR 1), some (ZI most), none] [] 284 σ1
    refine zr_iconst (pc := 10) hV (-1) dX8_takeNumber_10 rfl ?_
    exact zr_iret (pc := 11) hV dX8_takeNumber_11 rfl rfl ⟨_, rfl, ⟨by decide, by decide⟩, hσ1, hFσ1, (by omega)⟩

