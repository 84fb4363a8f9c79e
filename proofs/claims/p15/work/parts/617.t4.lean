set_option maxHeartbeats 800000 in
theorem c_X12_next2 {σ : zq_S} (hσ : zx_T σ)  : zq_C zx_w yX12_next cX12_next 1 (some .int) 0 0 41 41 [ZR 0] σ (zq_pi (fun r τ => zx_T τ ∧ (∀ a i : Int, (¬ (a = 0 ∧ i = 15)) → τ a i = σ a i) ∧ (τ 0 15 = zt_sk (σ 10) (σ 0 14) (σ 0 15) ∧ r = zt_nx (σ 10) (σ 0 14) (σ 0 15)))) := by
  refine zq_C_of (by decide) (Nat.le_refl _) (Nat.le_of_ble_eq_true rfl) [some (ZR 0)] rfl (fun V hV => ?_)
  have L0 : ∀ (fuel : Nat) (σ_0 : zq_S), (zx_T σ_0) → (∀ a i : Int, (¬ (a = 0 ∧ i = 15)) → σ_0 a i = σ a i) → (zt_sk (σ 10) (σ 0 14) (σ_0 0 15) = zt_sk (σ 10) (σ 0 14) (σ 0 15)) → 80 - σ_0 0 15 < (fuel : Int) → V 0 [some (ZR 0)] [] 41 σ_0 := by
    intro fuel
    induction fuel with
    | zero =>
      intro σ_0 hσ_0 hFσ_0 hi0_0 hm0
      have t1 := zx_g15 hσ_0
      exfalso; omega
    | succ fuel ih =>
      intro σ_0 hσ_0 hFσ_0 hi0_0 hm0
      have ih0 := ih
      show V 0 [some (ZR 0)] [] 41 σ_0
      refine zr_aload_n (pc := 0) hV dX12_next_0 rfl rfl ?_
      refine zr_getI (pc := 1) hV 15 dX12_next_1 fX12_200 rfl rfl rfl (by decide) ?_
      have t2 := zx_g15 hσ_0
      refine zr_aload_n (pc := 4) hV dX12_next_4 rfl rfl ?_
      refine zr_getI (pc := 5) hV 14 dX12_next_5 fX12_197 rfl rfl rfl (by decide) ?_
      have t3 := zx_g14 hσ_0
      have t4 : σ_0 0 14 = σ 0 14 := hFσ_0 _ _ (by omega)
      refine zr_icmp_ge (pc := 8) hV 38 dX12_next_8 (by decide) (by omega) (by omega) (fun c5 => ?_) (fun c5 => ?_)
      · show V 38 [some (ZR 0)] [] 41 σ_0
        have zs : zt_sk (σ 10) (σ 0 14) (σ_0 0 15) = σ_0 0 15 := zt_sk_n (by omega)
        refine zr_aload_n (pc := 38) hV dX12_next_38 rfl rfl ?_
        refine zr_getI (pc := 39) hV 15 dX12_next_39 fX12_200 rfl rfl rfl (by decide) ?_
        have t6 := zx_g15 hσ_0
        refine zr_aload_n (pc := 42) hV dX12_next_42 rfl rfl ?_
        refine zr_getI (pc := 43) hV 14 dX12_next_43 fX12_197 rfl rfl rfl (by decide) ?_
        have t7 := zx_g14 hσ_0
        have t8 : σ_0 0 14 = σ 0 14 := hFσ_0 _ _ (by omega)
        refine zr_icmp_ge (pc := 46) hV 61 dX12_next_46 (by decide) (by omega) (by omega) (fun c9 => ?_) (fun c9 => ?_)
        · show V 61 [some (ZR 0)] [] 41 σ_0
          refine zr_iconst (pc := 61) hV (-1) dX12_next_61 rfl ?_
          show V 62 [some (ZR 0)] [ZI (-1)] 41 σ_0
          have t10 := zx_g15 hσ_0
          exact zr_iret (pc := 62) hV dX12_next_62 rfl rfl ⟨_, rfl, ⟨by decide, by decide⟩, hσ_0, hFσ_0, ⟨by omega, (zt_nx_n (by omega)).symm⟩⟩
        · show V 49 [some (ZR 0)] [] 41 σ_0
          refine zr_aload_n (pc := 49) hV dX12_next_49 rfl rfl ?_
          refine zr_getR (pc := 50) hV 13 10 dX12_next_50 fX12_47 rfl rfl rfl (by decide) (zx_g13 hσ_0) (by omega) ?_
          refine zr_aload_n (pc := 53) hV dX12_next_53 rfl rfl ?_
          refine zr_getI (pc := 54) hV 15 dX12_next_54 fX12_200 rfl rfl rfl (by decide) ?_
          have t11 := zx_g15 hσ_0
          refine zr_iald (pc := 57) hV dX12_next_57 rfl (by decide) rfl (by omega) ?_
          have t12 := zx_ga10 hσ_0 (σ_0 0 15)
          have t13 : σ_0 10 (σ_0 0 15) = σ 10 (σ_0 0 15) := hFσ_0 _ _ (by omega)
          refine zr_goto (pc := 58) hV 62 dX12_next_58 (by decide) ?_
          show V 62 [some (ZR 0)] [ZI (σ_0 10 (σ_0 0 15))] 41 σ_0
          have t14 := zx_g15 hσ_0
          exact zr_iret (pc := 62) hV dX12_next_62 rfl rfl ⟨_, rfl, (by omega), hσ_0, hFσ_0, ⟨by omega, by rw [zt_nx_y (by omega), ← hi0_0, zs]; omega⟩⟩
      · show V 11 [some (ZR 0)] [] 41 σ_0
        refine zr_aload_n (pc := 11) hV dX12_next_11 rfl rfl ?_
        refine zr_getR (pc := 12) hV 13 10 dX12_next_12 fX12_47 rfl rfl rfl (by decide) (zx_g13 hσ_0) (by omega) ?_
        refine zr_aload_n (pc := 15) hV dX12_next_15 rfl rfl ?_
        refine zr_getI (pc := 16) hV 15 dX12_next_16 fX12_200 rfl rfl rfl (by decide) ?_
        have t15 := zx_g15 hσ_0
        refine zr_iald (pc := 19) hV dX12_next_19 rfl (by decide) rfl (by omega) ?_
        have t16 := zx_ga10 hσ_0 (σ_0 0 15)
        have t17 : σ_0 10 (σ_0 0 15) = σ 10 (σ_0 0 15) := hFσ_0 _ _ (by omega)
        refine zr_bipush (pc := 20) hV 32 dX12_next_20 (by decide) ?_
        refine zr_icmp_ne (pc := 22) hV 38 dX12_next_22 (by decide) (by omega) ⟨by decide, by decide⟩ (fun c18 => ?_) (fun c18 => ?_)
        · show V 38 [some (ZR 0)] [] 41 σ_0
          have zs : zt_sk (σ 10) (σ 0 14) (σ_0 0 15) = σ_0 0 15 := zt_sk_n (by omega)
          refine zr_aload_n (pc := 38) hV dX12_next_38 rfl rfl ?_
          refine zr_getI (pc := 39) hV 15 dX12_next_39 fX12_200 rfl rfl rfl (by decide) ?_
          have t19 := zx_g15 hσ_0
          refine zr_aload_n (pc := 42) hV dX12_next_42 rfl rfl ?_
          refine zr_getI (pc := 43) hV 14 dX12_next_43 fX12_197 rfl rfl rfl (by decide) ?_
          have t20 := zx_g14 hσ_0
          have t21 : σ_0 0 14 = σ 0 14 := hFσ_0 _ _ (by omega)
          refine zr_icmp_ge (pc := 46) hV 61 dX12_next_46 (by decide) (by omega) (by omega) (fun c22 => ?_) (fun c22 => ?_)
          · show V 61 [some (ZR 0)] [] 41 σ_0
            refine zr_iconst (pc := 61) hV (-1) dX12_next_61 rfl ?_
            show V 62 [some (ZR 0)] [ZI (-1)] 41 σ_0
            have t23 := zx_g15 hσ_0
            exact zr_iret (pc := 62) hV dX12_next_62 rfl rfl ⟨_, rfl, ⟨by decide, by decide⟩, hσ_0, hFσ_0, ⟨by omega, (zt_nx_n (by omega)).symm⟩⟩
          · show V 49 [some (ZR 0)] [] 41 σ_0
            refine zr_aload_n (pc := 49) hV dX12_next_49 rfl rfl ?_
            refine zr_getR (pc := 50) hV 13 10 dX12_next_50 fX12_47 rfl rfl rfl (by decide) (zx_g13 hσ_0) (by omega) ?_
            refine zr_aload_n (pc := 53) hV dX12_next_53 rfl rfl ?_
            refine zr_getI (pc := 54) hV 15 dX12_next_54 fX12_200 rfl rfl rfl (by decide) ?_
            have t24 := zx_g15 hσ_0
            refine zr_iald (pc := 57) hV dX12_next_57 rfl (by decide) rfl (by omega) ?_
            have t25 := zx_ga10 hσ_0 (σ_0 0 15)
            have t26 : σ_0 10 (σ_0 0 15) = σ 10 (σ_0 0 15) := hFσ_0 _ _ (by omega)
            refine zr_goto (pc := 58) hV 62 dX12_next_58 (by decide) ?_
            show V 62 [some (ZR 0)] [ZI (σ_0 10 (σ_0 0 15))] 41 σ_0
            have t27 := zx_g15 hσ_0
            exact zr_iret (pc := 62) hV dX12_next_62 rfl rfl ⟨_, rfl, (by omega), hσ_0, hFσ_0, ⟨by omega, by rw [zt_nx_y (by omega), ← hi0_0, zs]; omega⟩⟩
        · show V 25 [some (ZR 0)] [] 41 σ_0
          refine zr_aload_n (pc := 25) hV dX12_next_25 rfl rfl ?_
          refine zr_dup (pc := 26) hV dX12_next_26 (fun _ => rfl) ?_
          refine zr_getI (pc := 27) hV 15 dX12_next_27 fX12_200 rfl rfl rfl (by decide) ?_
          have t28 := zx_g15 hσ_0
          refine zr_iconst (pc := 30) hV 1 dX12_next_30 rfl ?_
          refine zr_iadd (pc := 31) hV dX12_next_31 ?_
          refine zr_putI (pc := 32) hV 15 dX12_next_32 fX12_200 rfl rfl rfl rfl (by decide) (fun σ32 eσ32 => ?_)
          have hσ32 : zx_T σ32 := zx_u15 eσ32 hσ_0 (by omega)
          have hFσ32 : ∀ a i : Int, (¬ (a = 0 ∧ i = 15)) → σ32 a i = σ a i := fun a i h => by rw [eσ32, zq_up_ne h]; exact hFσ_0 a i h
          refine zr_goto (pc := 35) hV 0 dX12_next_35 (by decide) ?_
          have t29 := zx_g15 hσ32
          have t30 : σ32 0 15 = (σ_0 0 15) + 1 := by rw [eσ32]; exact zq_up_same _ _ _ _
          have t31 := zx_g15 hσ32
          have t32 : σ32 0 15 = (σ_0 0 15) + 1 := by rw [eσ32]; exact zq_up_same _ _ _ _
          exact ih0 σ32 hσ32 hFσ32 (by rw [show σ32 0 15 = σ_0 0 15 + 1 by omega, ← zt_sk_y (t := σ 10) (n := σ 0 14) (a := σ_0 0 15) ⟨by omega, by omega⟩]; exact hi0_0) (by omega)
  have t33 := zx_g15 hσ
  have t34 := zx_g15 hσ
  exact L0 (80 - σ 0 15 + 1 : Int).toNat σ hσ (fun a i _ => rfl) rfl (by omega)
set_option maxHeartbeats 800000 in
theorem c_X12_takes2 {σ : zq_S} (hσ : zx_T σ) (c : Int) (q0 : 0 ≤ c ∧ c ≤ 127) : zq_C zx_w yX12_takes cX12_takes 3 (some .boolean) 1 20 41 41 [ZR 0, ZI c] σ (zq_pi (fun r τ => zx_T τ ∧ (∀ a i : Int, (¬ (a = 0 ∧ i = 15)) → τ a i = σ a i) ∧ (0 ≤ r ∧ r ≤ 1 ∧ r = zt_tkR (σ 10) (σ 0 14) c (σ 0 15) ∧ τ 0 15 = zt_tkA (σ 10) (σ 0 14) c (σ 0 15)))) := by
  refine zq_C_of (by decide) (Nat.le_refl _) (Nat.le_of_ble_eq_true rfl) [some (ZR 0), some (ZI c), none] rfl (fun V hV => ?_)
  have z14 := zx_g14 hσ
  show V 0 [some (ZR 0), some (ZI c), none] [] 41 σ
  refine zr_aload_n (pc := 0) hV dX12_takes_0 rfl rfl ?_
  refine zr_callVi (pc := 1) hV [] (st := []) (c_X12_next2 (σ := σ) hσ ) dX12_takes_1 mX12_203 rfl (by decide) (by decide) (Nat.le_of_ble_eq_true rfl) (Nat.le_refl _) (fun r1 σ1 hr1 pσ1 => ?_)
  obtain ⟨hσ1, hfσ1, pσ1⟩ := pσ1
  have hFσ1 : ∀ a i : Int, (¬ (a = 0 ∧ i = 15)) → σ1 a i = σ a i := fun a i h => (hfσ1 a i h)
  have t1 := zx_g14 hσ
  have t2 := zx_g15 hσ
  have t3 := zx_g15 hσ1
  refine zr_iload_n (pc := 4) hV dX12_takes_4 rfl rfl ?_
  refine zr_icmp_ne (pc := 5) hV 12 dX12_takes_5 (by decide) (by omega) (by omega) (fun c4 => ?_) (fun c4 => ?_)
  · show V 12 [some (ZR 0), some (ZI c), none] [] 41 σ1
    refine zr_iconst (pc := 12) hV 0 dX12_takes_12 rfl ?_
    show V 13 [some (ZR 0), some (ZI c), none] [ZI 0] 41 σ1
    refine zr_istore_n (pc := 13) hV [some (ZR 0), some (ZI c), some (ZI 0)] dX12_takes_13 rfl (by decide) rfl rfl ?_
    refine zr_aload_n (pc := 14) hV dX12_takes_14 rfl rfl ?_
    refine zr_dup (pc := 15) hV dX12_takes_15 (fun _ => rfl) ?_
    refine zr_getI (pc := 16) hV 15 dX12_takes_16 fX12_200 rfl rfl rfl (by decide) ?_
    have t5 := zx_g15 hσ1
    refine zr_iload_n (pc := 19) hV dX12_takes_19 rfl rfl ?_
    refine zr_if_eq (pc := 20) hV 27 dX12_takes_20 (by decide) ⟨by decide, by decide⟩ (fun c6 => ?_) (fun c6 => ?_)
    · show V 27 [some (ZR 0), some (ZI c), some (ZI 0)] [ZI (σ1 0 15), ZR 0] 41 σ1
      refine zr_iconst (pc := 27) hV 0 dX12_takes_27 rfl ?_
      show V 28 [some (ZR 0), some (ZI c), some (ZI 0)] [ZI 0, ZI (σ1 0 15), ZR 0] 41 σ1
      refine zr_iadd (pc := 28) hV dX12_takes_28 ?_
      refine zr_putI (pc := 29) hV 15 dX12_takes_29 fX12_200 rfl rfl rfl rfl (by decide) (fun σ29 eσ29 => ?_)
      have hσ29 : zx_T σ29 := zx_u15 eσ29 hσ1 (by omega)
      have hFσ29 : ∀ a i : Int, (¬ (a = 0 ∧ i = 15)) → σ29 a i = σ a i := fun a i h => by rw [eσ29, zq_up_ne h]; exact hFσ1 a i h
      refine zr_iload_n (pc := 32) hV dX12_takes_32 rfl rfl ?_
      have t7 := zx_g15 hσ29
      have t8 : σ29 0 15 = (σ1 0 15) + 0 := by rw [eσ29]; exact zq_up_same _ _ _ _
      exact zr_zret (pc := 33) hV dX12_takes_33 rfl rfl (by omega) ⟨_, rfl, ⟨by decide, by decide⟩, hσ29, hFσ29, ⟨by omega, by omega, by rw [zt_tkR_n (by omega)], by rw [zt_tkA_n (by omega)]; omega⟩⟩
    · exfalso; omega
  · show V 8 [some (ZR 0), some (ZI c), none] [] 41 σ1
    have zi := zt_nx_in (t := σ 10) (n := σ 0 14) (a := σ 0 15) (by omega)
    refine zr_iconst (pc := 8) hV 1 dX12_takes_8 rfl ?_
    refine zr_goto (pc := 9) hV 13 dX12_takes_9 (by decide) ?_
    show V 13 [some (ZR 0), some (ZI c), none] [ZI 1] 41 σ1
    refine zr_istore_n (pc := 13) hV [some (ZR 0), some (ZI c), some (ZI 1)] dX12_takes_13 rfl (by decide) rfl rfl ?_
    refine zr_aload_n (pc := 14) hV dX12_takes_14 rfl rfl ?_
    refine zr_dup (pc := 15) hV dX12_takes_15 (fun _ => rfl) ?_
    refine zr_getI (pc := 16) hV 15 dX12_takes_16 fX12_200 rfl rfl rfl (by decide) ?_
    have t9 := zx_g15 hσ1
    refine zr_iload_n (pc := 19) hV dX12_takes_19 rfl rfl ?_
    refine zr_if_eq (pc := 20) hV 27 dX12_takes_20 (by decide) ⟨by decide, by decide⟩ (fun c10 => ?_) (fun c10 => ?_)
    · exfalso; omega
    · show V 23 [some (ZR 0), some (ZI c), some (ZI 1)] [ZI (σ1 0 15), ZR 0] 41 σ1
      refine zr_iconst (pc := 23) hV 1 dX12_takes_23 rfl ?_
      refine zr_goto (pc := 24) hV 28 dX12_takes_24 (by decide) ?_
      show V 28 [some (ZR 0), some (ZI c), some (ZI 1)] [ZI 1, ZI (σ1 0 15), ZR 0] 41 σ1
      refine zr_iadd (pc := 28) hV dX12_takes_28 ?_
      refine zr_putI (pc := 29) hV 15 dX12_takes_29 fX12_200 rfl rfl rfl rfl (by decide) (fun σ29 eσ29 => ?_)
      have hσ29 : zx_T σ29 := zx_u15 eσ29 hσ1 (by omega)
      have hFσ29 : ∀ a i : Int, (¬ (a = 0 ∧ i = 15)) → σ29 a i = σ a i := fun a i h => by rw [eσ29, zq_up_ne h]; exact hFσ1 a i h
      refine zr_iload_n (pc := 32) hV dX12_takes_32 rfl rfl ?_
      have t11 := zx_g15 hσ29
      have t12 : σ29 0 15 = (σ1 0 15) + 1 := by rw [eσ29]; exact zq_up_same _ _ _ _
      exact zr_zret (pc := 33) hV dX12_takes_33 rfl rfl (by omega) ⟨_, rfl, ⟨by decide, by decide⟩, hσ29, hFσ29, ⟨by omega, by omega, by rw [zt_tkR_y (by omega)], by rw [zt_tkA_y (by omega)]; omega⟩⟩
set_option maxHeartbeats 800000 in
theorem c_X12_number2 {σ : zq_S} (hσ : zx_T σ) (high : Int) (q0 : 0 ≤ high ∧ high ≤ 4095) : zq_C zx_w yX12_number cX12_number 5 (some .int) 1 25 41 41 [ZR 0, ZI high] σ (zq_pi (fun r τ => zx_T τ ∧ (∀ a i : Int, (¬ (a = 0 ∧ i = 15)) → τ a i = σ a i) ∧ (-1 ≤ r ∧ r ≤ high ∧ r = zt_nuR (σ 10) (σ 0 14) high (σ 0 15) ∧ τ 0 15 = zt_nuA (σ 10) (σ 0 14) high (σ 0 15)))) := by
  refine zq_C_of (by decide) (Nat.le_refl _) (Nat.le_of_ble_eq_true rfl) [some (ZR 0), some (ZI high), none, none, none] rfl (fun V hV => ?_)
  have z14 := zx_g14 hσ
  show V 0 [some (ZR 0), some (ZI high), none, none, none] [] 41 σ
  refine zr_aload_n (pc := 0) hV dX12_number_0 rfl rfl ?_
  refine zr_callVi (pc := 1) hV [] (st := []) (c_X12_next2 (σ := σ) hσ ) dX12_number_1 mX12_203 rfl (by decide) (by decide) (Nat.le_of_ble_eq_true rfl) (Nat.le_refl _) (fun r1 σ1 hr1 pσ1 => ?_)
  obtain ⟨hσ1, hfσ1, pσ1⟩ := pσ1
  have hFσ1 : ∀ a i : Int, (¬ (a = 0 ∧ i = 15)) → σ1 a i = σ a i := fun a i h => (hfσ1 a i h)
  have t1 := zx_g14 hσ
  have t2 := zx_g15 hσ
  have t3 := zx_g15 hσ1
  refine zr_istore_n (pc := 4) hV [some (ZR 0), some (ZI high), some (ZI r1), none, none] dX12_number_4 rfl (by decide) rfl rfl ?_
  refine zr_aload_n (pc := 5) hV dX12_number_5 rfl rfl ?_
  refine zr_getI (pc := 6) hV 15 dX12_number_6 fX12_200 rfl rfl rfl (by decide) ?_
  have t4 := zx_g15 hσ1
  refine zr_istore_n (pc := 9) hV [some (ZR 0), some (ZI high), some (ZI r1), some (ZI (σ1 0 15)), none] dX12_number_9 rfl (by decide) rfl rfl ?_
  refine zr_iconst (pc := 10) hV 0 dX12_number_10 rfl ?_
  refine zr_istore (pc := 11) hV [some (ZR 0), some (ZI high), some (ZI r1), some (ZI (σ1 0 15)), some (ZI 0)] dX12_number_11 (by decide) rfl rfl ?_
  have L13 : ∀ (fuel : Nat) (x4_13 : Int) (σ_13 : zq_S), (0 ≤ x4_13 ∧ x4_13 ≤ 40959) → (zx_T σ_13) → (∀ a i : Int, (¬ (a = 0 ∧ i = 15)) → σ_13 a i = σ a i) → ((σ1 0 15) = (zt_sk (σ 10) (σ 0 14) (σ 0 15)) ∧ (σ1 0 15) ≤ σ_13 0 15) → (zt_de (σ 10) (σ 0 14) (σ_13 0 15) = zt_de (σ 10) (σ 0 14) (zt_sk (σ 10) (σ 0 14) (σ 0 15))) → (0 ≤ (zt_dv (σ 10) (zt_sk (σ 10) (σ 0 14) (σ 0 15)) (σ_13 0 15)) ∧ ((zt_dv (σ 10) (zt_sk (σ 10) (σ 0 14) (σ 0 15)) (σ_13 0 15)) ≤ high → x4_13 = (zt_dv (σ 10) (zt_sk (σ 10) (σ 0 14) (σ 0 15)) (σ_13 0 15))) ∧ (high < (zt_dv (σ 10) (zt_sk (σ 10) (σ 0 14) (σ 0 15)) (σ_13 0 15)) → high < x4_13)) → 80 - σ_13 0 15 < (fuel : Int) → V 13 [some (ZR 0), some (ZI high), some (ZI r1), some (ZI (σ1 0 15)), some (ZI x4_13)] [] 41 σ_13 := by
    intro fuel
    induction fuel with
    | zero =>
      intro x4_13 σ_13 hx4_13 hσ_13 hFσ_13 hi13_0 hi13_1 hi13_2 hm13
      have t5 := zx_g15 hσ_13
      exfalso; omega
    | succ fuel ih =>
      intro x4_13 σ_13 hx4_13 hσ_13 hFσ_13 hi13_0 hi13_1 hi13_2 hm13
      have ih13 := ih
      show V 13 [some (ZR 0), some (ZI high), some (ZI r1), some (ZI (σ1 0 15)), some (ZI x4_13)] [] 41 σ_13
      refine zr_aload_n (pc := 13) hV dX12_number_13 rfl rfl ?_
      refine zr_getI (pc := 14) hV 15 dX12_number_14 fX12_200 rfl rfl rfl (by decide) ?_
      have t6 := zx_g15 hσ_13
      refine zr_aload_n (pc := 17) hV dX12_number_17 rfl rfl ?_
      refine zr_getI (pc := 18) hV 14 dX12_number_18 fX12_197 rfl rfl rfl (by decide) ?_
      have t7 := zx_g14 hσ_13
      have t8 : σ_13 0 14 = σ 0 14 := hFσ_13 _ _ (by omega)
      refine zr_icmp_ge (pc := 21) hV 90 dX12_number_21 (by decide) (by omega) (by omega) (fun c9 => ?_) (fun c9 => ?_)
      · show V 90 [some (ZR 0), some (ZI high), some (ZI r1), some (ZI (σ1 0 15)), some (ZI x4_13)] [] 41 σ_13
        have zd : zt_de (σ 10) (σ 0 14) (σ_13 0 15) = σ_13 0 15 := zt_de_n (by omega)
        have zv : zt_dv (σ 10) (zt_sk (σ 10) (σ 0 14) (σ 0 15)) (zt_de (σ 10) (σ 0 14) (zt_sk (σ 10) (σ 0 14) (σ 0 15))) = zt_dv (σ 10) (zt_sk (σ 10) (σ 0 14) (σ 0 15)) (σ_13 0 15) := by rw [← hi13_1, zd]
        have zq0 : σ_13 0 15 = (zt_sk (σ 10) (σ 0 14) (σ 0 15)) → zt_dv (σ 10) (zt_sk (σ 10) (σ 0 14) (σ 0 15)) (σ_13 0 15) = 0 := fun h => by rw [h, zt_dv_0]
        have zq1 := zt_de_n (t := σ 10) (n := σ 0 14) (a := (zt_sk (σ 10) (σ 0 14) (σ 0 15)))
        have zq2 : (zt_sk (σ 10) (σ 0 14) (σ 0 15)) < σ 0 14 → zt_nx (σ 10) (σ 0 14) (σ 0 15) = σ 10 (zt_sk (σ 10) (σ 0 14) (σ 0 15)) := fun h => zt_nx_y h
        have zq3 : ¬ (zt_sk (σ 10) (σ 0 14) (σ 0 15)) < σ 0 14 → zt_nx (σ 10) (σ 0 14) (σ 0 15) = -1 := fun h => zt_nx_n h
        have zq4 : (zt_sk (σ 10) (σ 0 14) (σ 0 15)) < σ 0 14 ∧ 48 ≤ σ 10 (zt_sk (σ 10) (σ 0 14) (σ 0 15)) ∧ σ 10 (zt_sk (σ 10) (σ 0 14) (σ 0 15)) ≤ 57 → (zt_sk (σ 10) (σ 0 14) (σ 0 15)) + 1 ≤ σ_13 0 15 := fun h => by rw [← zd, hi13_1, zt_de_y h]; exact (zt_rn_b (by omega)).1
        refine zr_iload_n (pc := 90) hV dX12_number_90 rfl rfl ?_
        refine zr_if_lt (pc := 91) hV 108 dX12_number_91 (by decide) (by omega) (fun c10 => ?_) (fun c10 => ?_)
        · show V 108 [some (ZR 0), some (ZI high), some (ZI r1), some (ZI (σ1 0 15)), some (ZI x4_13)] [] 41 σ_13
          refine zr_aload_n (pc := 108) hV dX12_number_108 rfl rfl ?_
          refine zr_iload_n (pc := 109) hV dX12_number_109 rfl rfl ?_
          refine zr_putI (pc := 110) hV 15 dX12_number_110 fX12_200 rfl rfl rfl rfl (by decide) (fun σ110 eσ110 => ?_)
          have hσ110 : zx_T σ110 := zx_u15 eσ110 hσ_13 (by omega)
          have hFσ110 : ∀ a i : Int, (¬ (a = 0 ∧ i = 15)) → σ110 a i = σ a i := fun a i h => by rw [eσ110, zq_up_ne h]; exact hFσ_13 a i h
          have zu := zt_nu_n (t := σ 10) (n := σ 0 14) (m := high) (a := σ 0 15) (by omega)
          refine zr_iconst (pc := 113) hV (-1) dX12_number_113 rfl ?_
          have t11 := zx_g15 hσ110
          have t12 : σ110 0 15 = σ1 0 15 := by rw [eσ110]; exact zq_up_same _ _ _ _
          exact zr_iret (pc := 114) hV dX12_number_114 rfl rfl ⟨_, rfl, ⟨by decide, by decide⟩, hσ110, hFσ110, (by omega)⟩
        · show V 94 [some (ZR 0), some (ZI high), some (ZI r1), some (ZI (σ1 0 15)), some (ZI x4_13)] [] 41 σ_13
          refine zr_aload_n (pc := 94) hV dX12_number_94 rfl rfl ?_
          refine zr_getI (pc := 95) hV 15 dX12_number_95 fX12_200 rfl rfl rfl (by decide) ?_
          have t13 := zx_g15 hσ_13
          refine zr_iload_n (pc := 98) hV dX12_number_98 rfl rfl ?_
          refine zr_icmp_eq (pc := 99) hV 108 dX12_number_99 (by decide) (by omega) (by omega) (fun c14 => ?_) (fun c14 => ?_)
          · show V 108 [some (ZR 0), some (ZI high), some (ZI r1), some (ZI (σ1 0 15)), some (ZI x4_13)] [] 41 σ_13
            refine zr_aload_n (pc := 108) hV dX12_number_108 rfl rfl ?_
            refine zr_iload_n (pc := 109) hV dX12_number_109 rfl rfl ?_
            refine zr_putI (pc := 110) hV 15 dX12_number_110 fX12_200 rfl rfl rfl rfl (by decide) (fun σ110 eσ110 => ?_)
            have hσ110 : zx_T σ110 := zx_u15 eσ110 hσ_13 (by omega)
            have hFσ110 : ∀ a i : Int, (¬ (a = 0 ∧ i = 15)) → σ110 a i = σ a i := fun a i h => by rw [eσ110, zq_up_ne h]; exact hFσ_13 a i h
            have zu := zt_nu_n (t := σ 10) (n := σ 0 14) (m := high) (a := σ 0 15) (by omega)
            refine zr_iconst (pc := 113) hV (-1) dX12_number_113 rfl ?_
            have t15 := zx_g15 hσ110
            have t16 : σ110 0 15 = σ1 0 15 := by rw [eσ110]; exact zq_up_same _ _ _ _
            exact zr_iret (pc := 114) hV dX12_number_114 rfl rfl ⟨_, rfl, ⟨by decide, by decide⟩, hσ110, hFσ110, (by omega)⟩
          · show V 102 [some (ZR 0), some (ZI high), some (ZI r1), some (ZI (σ1 0 15)), some (ZI x4_13)] [] 41 σ_13
            refine zr_iload (pc := 102) hV dX12_number_102 rfl ?_
            refine zr_iload_n (pc := 104) hV dX12_number_104 rfl rfl ?_
            refine zr_icmp_le (pc := 105) hV 115 dX12_number_105 (by decide) (by omega) (by omega) (fun c17 => ?_) (fun c17 => ?_)
            · show V 115 [some (ZR 0), some (ZI high), some (ZI r1), some (ZI (σ1 0 15)), some (ZI x4_13)] [] 41 σ_13
              have zu := zt_nu_y (t := σ 10) (n := σ 0 14) (m := high) (a := σ 0 15) (by omega)
              refine zr_iload (pc := 115) hV dX12_number_115 rfl ?_
              have t18 := zx_g15 hσ_13
              exact zr_iret (pc := 117) hV dX12_number_117 rfl rfl ⟨_, rfl, (by omega), hσ_13, hFσ_13, (by omega)⟩
            · show V 108 [some (ZR 0), some (ZI high), some (ZI r1), some (ZI (σ1 0 15)), some (ZI x4_13)] [] 41 σ_13
              refine zr_aload_n (pc := 108) hV dX12_number_108 rfl rfl ?_
              refine zr_iload_n (pc := 109) hV dX12_number_109 rfl rfl ?_
              refine zr_putI (pc := 110) hV 15 dX12_number_110 fX12_200 rfl rfl rfl rfl (by decide) (fun σ110 eσ110 => ?_)
              have hσ110 : zx_T σ110 := zx_u15 eσ110 hσ_13 (by omega)
              have hFσ110 : ∀ a i : Int, (¬ (a = 0 ∧ i = 15)) → σ110 a i = σ a i := fun a i h => by rw [eσ110, zq_up_ne h]; exact hFσ_13 a i h
              have zu := zt_nu_n (t := σ 10) (n := σ 0 14) (m := high) (a := σ 0 15) (by omega)
              refine zr_iconst (pc := 113) hV (-1) dX12_number_113 rfl ?_
              have t19 := zx_g15 hσ110
              have t20 : σ110 0 15 = σ1 0 15 := by rw [eσ110]; exact zq_up_same _ _ _ _
              exact zr_iret (pc := 114) hV dX12_number_114 rfl rfl ⟨_, rfl, ⟨by decide, by decide⟩, hσ110, hFσ110, (by omega)⟩
      · show V 24 [some (ZR 0), some (ZI high), some (ZI r1), some (ZI (σ1 0 15)), some (ZI x4_13)] [] 41 σ_13
        refine zr_aload_n (pc := 24) hV dX12_number_24 rfl rfl ?_
        refine zr_getR (pc := 25) hV 13 10 dX12_number_25 fX12_47 rfl rfl rfl (by decide) (zx_g13 hσ_13) (by omega) ?_
        refine zr_aload_n (pc := 28) hV dX12_number_28 rfl rfl ?_
        refine zr_getI (pc := 29) hV 15 dX12_number_29 fX12_200 rfl rfl rfl (by decide) ?_
        have t21 := zx_g15 hσ_13
        refine zr_iald (pc := 32) hV dX12_number_32 rfl (by decide) rfl (by omega) ?_
        have t22 := zx_ga10 hσ_13 (σ_13 0 15)
        have t23 : σ_13 10 (σ_13 0 15) = σ 10 (σ_13 0 15) := hFσ_13 _ _ (by omega)
        refine zr_i2l (pc := 33) hV dX12_number_33 (by omega) ?_
        refine zr_ldc2 (pc := 34) (v := 48) hV 48 dX12_number_34 kX12_207 (by decide) ?_
        refine zr_ldc2 (pc := 37) (v := 57) hV 57 dX12_number_37 kX12_209 (by decide) ?_
        refine zr_callSp (pc := 40) hV [ZL (σ_13 10 (σ_13 0 15)), ZL 48, ZL 57] (st := []) (c_X12_in (σ := σ_13) (σ_13 10 (σ_13 0 15)) 48 57 (by omega) (by omega) (by omega)) dX12_number_40 mX12_170 (by decide) (Nat.le_of_ble_eq_true rfl) (Nat.le_refl _) (fun r40 hr40 pr40 => ?_)
        refine zr_if_eq (pc := 43) hV 90 dX12_number_43 (by decide) (by omega) (fun c24 => ?_) (fun c24 => ?_)
        · show V 90 [some (ZR 0), some (ZI high), some (ZI r1), some (ZI (σ1 0 15)), some (ZI x4_13)] [] 41 σ_13
          have zd : zt_de (σ 10) (σ 0 14) (σ_13 0 15) = σ_13 0 15 := zt_de_n (by omega)
          have zv : zt_dv (σ 10) (zt_sk (σ 10) (σ 0 14) (σ 0 15)) (zt_de (σ 10) (σ 0 14) (zt_sk (σ 10) (σ 0 14) (σ 0 15))) = zt_dv (σ 10) (zt_sk (σ 10) (σ 0 14) (σ 0 15)) (σ_13 0 15) := by rw [← hi13_1, zd]
          have zq0 : σ_13 0 15 = (zt_sk (σ 10) (σ 0 14) (σ 0 15)) → zt_dv (σ 10) (zt_sk (σ 10) (σ 0 14) (σ 0 15)) (σ_13 0 15) = 0 := fun h => by rw [h, zt_dv_0]
          have zq1 := zt_de_n (t := σ 10) (n := σ 0 14) (a := (zt_sk (σ 10) (σ 0 14) (σ 0 15)))
          have zq2 : (zt_sk (σ 10) (σ 0 14) (σ 0 15)) < σ 0 14 → zt_nx (σ 10) (σ 0 14) (σ 0 15) = σ 10 (zt_sk (σ 10) (σ 0 14) (σ 0 15)) := fun h => zt_nx_y h
          have zq3 : ¬ (zt_sk (σ 10) (σ 0 14) (σ 0 15)) < σ 0 14 → zt_nx (σ 10) (σ 0 14) (σ 0 15) = -1 := fun h => zt_nx_n h
          have zq4 : (zt_sk (σ 10) (σ 0 14) (σ 0 15)) < σ 0 14 ∧ 48 ≤ σ 10 (zt_sk (σ 10) (σ 0 14) (σ 0 15)) ∧ σ 10 (zt_sk (σ 10) (σ 0 14) (σ 0 15)) ≤ 57 → (zt_sk (σ 10) (σ 0 14) (σ 0 15)) + 1 ≤ σ_13 0 15 := fun h => by rw [← zd, hi13_1, zt_de_y h]; exact (zt_rn_b (by omega)).1
          refine zr_iload_n (pc := 90) hV dX12_number_90 rfl rfl ?_
          refine zr_if_lt (pc := 91) hV 108 dX12_number_91 (by decide) (by omega) (fun c25 => ?_) (fun c25 => ?_)
          · show V 108 [some (ZR 0), some (ZI high), some (ZI r1), some (ZI (σ1 0 15)), some (ZI x4_13)] [] 41 σ_13
            refine zr_aload_n (pc := 108) hV dX12_number_108 rfl rfl ?_
            refine zr_iload_n (pc := 109) hV dX12_number_109 rfl rfl ?_
            refine zr_putI (pc := 110) hV 15 dX12_number_110 fX12_200 rfl rfl rfl rfl (by decide) (fun σ110 eσ110 => ?_)
            have hσ110 : zx_T σ110 := zx_u15 eσ110 hσ_13 (by omega)
            have hFσ110 : ∀ a i : Int, (¬ (a = 0 ∧ i = 15)) → σ110 a i = σ a i := fun a i h => by rw [eσ110, zq_up_ne h]; exact hFσ_13 a i h
            have zu := zt_nu_n (t := σ 10) (n := σ 0 14) (m := high) (a := σ 0 15) (by omega)
            refine zr_iconst (pc := 113) hV (-1) dX12_number_113 rfl ?_
            have t26 := zx_g15 hσ110
            have t27 : σ110 0 15 = σ1 0 15 := by rw [eσ110]; exact zq_up_same _ _ _ _
            exact zr_iret (pc := 114) hV dX12_number_114 rfl rfl ⟨_, rfl, ⟨by decide, by decide⟩, hσ110, hFσ110, (by omega)⟩
          · show V 94 [some (ZR 0), some (ZI high), some (ZI r1), some (ZI (σ1 0 15)), some (ZI x4_13)] [] 41 σ_13
            refine zr_aload_n (pc := 94) hV dX12_number_94 rfl rfl ?_
            refine zr_getI (pc := 95) hV 15 dX12_number_95 fX12_200 rfl rfl rfl (by decide) ?_
            have t28 := zx_g15 hσ_13
            refine zr_iload_n (pc := 98) hV dX12_number_98 rfl rfl ?_
            refine zr_icmp_eq (pc := 99) hV 108 dX12_number_99 (by decide) (by omega) (by omega) (fun c29 => ?_) (fun c29 => ?_)
            · show V 108 [some (ZR 0), some (ZI high), some (ZI r1), some (ZI (σ1 0 15)), some (ZI x4_13)] [] 41 σ_13
              refine zr_aload_n (pc := 108) hV dX12_number_108 rfl rfl ?_
              refine zr_iload_n (pc := 109) hV dX12_number_109 rfl rfl ?_
              refine zr_putI (pc := 110) hV 15 dX12_number_110 fX12_200 rfl rfl rfl rfl (by decide) (fun σ110 eσ110 => ?_)
              have hσ110 : zx_T σ110 := zx_u15 eσ110 hσ_13 (by omega)
              have hFσ110 : ∀ a i : Int, (¬ (a = 0 ∧ i = 15)) → σ110 a i = σ a i := fun a i h => by rw [eσ110, zq_up_ne h]; exact hFσ_13 a i h
              have zu := zt_nu_n (t := σ 10) (n := σ 0 14) (m := high) (a := σ 0 15) (by omega)
              refine zr_iconst (pc := 113) hV (-1) dX12_number_113 rfl ?_
              have t30 := zx_g15 hσ110
              have t31 : σ110 0 15 = σ1 0 15 := by rw [eσ110]; exact zq_up_same _ _ _ _
              exact zr_iret (pc := 114) hV dX12_number_114 rfl rfl ⟨_, rfl, ⟨by decide, by decide⟩, hσ110, hFσ110, (by omega)⟩
            · show V 102 [some (ZR 0), some (ZI high), some (ZI r1), some (ZI (σ1 0 15)), some (ZI x4_13)] [] 41 σ_13
              refine zr_iload (pc := 102) hV dX12_number_102 rfl ?_
              refine zr_iload_n (pc := 104) hV dX12_number_104 rfl rfl ?_
              refine zr_icmp_le (pc := 105) hV 115 dX12_number_105 (by decide) (by omega) (by omega) (fun c32 => ?_) (fun c32 => ?_)
              · show V 115 [some (ZR 0), some (ZI high), some (ZI r1), some (ZI (σ1 0 15)), some (ZI x4_13)] [] 41 σ_13
                have zu := zt_nu_y (t := σ 10) (n := σ 0 14) (m := high) (a := σ 0 15) (by omega)
                refine zr_iload (pc := 115) hV dX12_number_115 rfl ?_
                have t33 := zx_g15 hσ_13
                exact zr_iret (pc := 117) hV dX12_number_117 rfl rfl ⟨_, rfl, (by omega), hσ_13, hFσ_13, (by omega)⟩
              · show V 108 [some (ZR 0), some (ZI high), some (ZI r1), some (ZI (σ1 0 15)), some (ZI x4_13)] [] 41 σ_13
                refine zr_aload_n (pc := 108) hV dX12_number_108 rfl rfl ?_
                refine zr_iload_n (pc := 109) hV dX12_number_109 rfl rfl ?_
                refine zr_putI (pc := 110) hV 15 dX12_number_110 fX12_200 rfl rfl rfl rfl (by decide) (fun σ110 eσ110 => ?_)
                have hσ110 : zx_T σ110 := zx_u15 eσ110 hσ_13 (by omega)
                have hFσ110 : ∀ a i : Int, (¬ (a = 0 ∧ i = 15)) → σ110 a i = σ a i := fun a i h => by rw [eσ110, zq_up_ne h]; exact hFσ_13 a i h
                have zu := zt_nu_n (t := σ 10) (n := σ 0 14) (m := high) (a := σ 0 15) (by omega)
                refine zr_iconst (pc := 113) hV (-1) dX12_number_113 rfl ?_
                have t34 := zx_g15 hσ110
                have t35 : σ110 0 15 = σ1 0 15 := by rw [eσ110]; exact zq_up_same _ _ _ _
                exact zr_iret (pc := 114) hV dX12_number_114 rfl rfl ⟨_, rfl, ⟨by decide, by decide⟩, hσ110, hFσ110, (by omega)⟩
        · show V 46 [some (ZR 0), some (ZI high), some (ZI r1), some (ZI (σ1 0 15)), some (ZI x4_13)] [] 41 σ_13
          refine zr_iload (pc := 46) hV dX12_number_46 rfl ?_
          refine zr_iload_n (pc := 48) hV dX12_number_48 rfl rfl ?_
          refine zr_icmp_le (pc := 49) hV 57 dX12_number_49 (by decide) (by omega) (by omega) (fun c36 => ?_) (fun c36 => ?_)
          · show V 57 [some (ZR 0), some (ZI high), some (ZI r1), some (ZI (σ1 0 15)), some (ZI x4_13)] [] 41 σ_13
            refine zr_bipush (pc := 57) hV 10 dX12_number_57 (by decide) ?_
            refine zr_iload (pc := 59) hV dX12_number_59 rfl ?_
            refine zr_imul (pc := 61) hV dX12_number_61 ?_
            refine zr_aload_n (pc := 62) hV dX12_number_62 rfl rfl ?_
            refine zr_getR (pc := 63) hV 13 10 dX12_number_63 fX12_47 rfl rfl rfl (by decide) (zx_g13 hσ_13) (by omega) ?_
            refine zr_aload_n (pc := 66) hV dX12_number_66 rfl rfl ?_
            refine zr_getI (pc := 67) hV 15 dX12_number_67 fX12_200 rfl rfl rfl (by decide) ?_
            have t37 := zx_g15 hσ_13
            refine zr_iald (pc := 70) hV dX12_number_70 rfl (by decide) rfl (by omega) ?_
            have t38 := zx_ga10 hσ_13 (σ_13 0 15)
            have t39 : σ_13 10 (σ_13 0 15) = σ 10 (σ_13 0 15) := hFσ_13 _ _ (by omega)
            refine zr_iadd (pc := 71) hV dX12_number_71 ?_
            refine zr_bipush (pc := 72) hV 48 dX12_number_72 (by decide) ?_
            refine zr_isub (pc := 74) hV dX12_number_74 ?_
            show V 75 [some (ZR 0), some (ZI high), some (ZI r1), some (ZI (σ1 0 15)), some (ZI x4_13)] [ZI (((10 * x4_13) + (σ_13 10 (σ_13 0 15))) - 48)] 41 σ_13
            refine zr_istore (pc := 75) hV [some (ZR 0), some (ZI high), some (ZI r1), some (ZI (σ1 0 15)), some (ZI (((10 * x4_13) + (σ_13 10 (σ_13 0 15))) - 48))] dX12_number_75 (by decide) rfl rfl ?_
            refine zr_aload_n (pc := 77) hV dX12_number_77 rfl rfl ?_
            refine zr_dup (pc := 78) hV dX12_number_78 (fun _ => rfl) ?_
            refine zr_getI (pc := 79) hV 15 dX12_number_79 fX12_200 rfl rfl rfl (by decide) ?_
            have t40 := zx_g15 hσ_13
            refine zr_iconst (pc := 82) hV 1 dX12_number_82 rfl ?_
            refine zr_iadd (pc := 83) hV dX12_number_83 ?_
            refine zr_putI (pc := 84) hV 15 dX12_number_84 fX12_200 rfl rfl rfl rfl (by decide) (fun σ84 eσ84 => ?_)
            have hσ84 : zx_T σ84 := zx_u15 eσ84 hσ_13 (by omega)
            have hFσ84 : ∀ a i : Int, (¬ (a = 0 ∧ i = 15)) → σ84 a i = σ a i := fun a i h => by rw [eσ84, zq_up_ne h]; exact hFσ_13 a i h
            refine zr_goto (pc := 87) hV 13 dX12_number_87 (by decide) ?_
            have t41 := zx_g15 hσ84
            have t42 : σ84 0 15 = (σ_13 0 15) + 1 := by rw [eσ84]; exact zq_up_same _ _ _ _
            have t43 := zx_g15 hσ84
            have t44 : σ84 0 15 = (σ_13 0 15) + 1 := by rw [eσ84]; exact zq_up_same _ _ _ _
            have t45 := zx_g15 hσ84
            have t46 : σ84 0 15 = (σ_13 0 15) + 1 := by rw [eσ84]; exact zq_up_same _ _ _ _
            have t47 := zx_g15 hσ84
            have t48 : σ84 0 15 = (σ_13 0 15) + 1 := by rw [eσ84]; exact zq_up_same _ _ _ _
            exact ih13 (((10 * x4_13) + (σ_13 10 (σ_13 0 15))) - 48) σ84 (by omega) hσ84 hFσ84 (by omega) (by rw [show σ84 0 15 = σ_13 0 15 + 1 by omega, ← zt_de_y (t := σ 10) (n := σ 0 14) (a := σ_13 0 15) ⟨by omega, by omega, by omega⟩]; exact hi13_1) (by rw [show σ84 0 15 = σ_13 0 15 + 1 by omega, zt_dv_s (t := σ 10) (s := (zt_sk (σ 10) (σ 0 14) (σ 0 15))) (a := σ_13 0 15) (by omega)]; omega) (by omega)
          · show V 52 [some (ZR 0), some (ZI high), some (ZI r1), some (ZI (σ1 0 15)), some (ZI x4_13)] [] 41 σ_13
            refine zr_iload (pc := 52) hV dX12_number_52 rfl ?_
            refine zr_goto (pc := 54) hV 75 dX12_number_54 (by decide) ?_
            show V 75 [some (ZR 0), some (ZI high), some (ZI r1), some (ZI (σ1 0 15)), some (ZI x4_13)] [ZI x4_13] 41 σ_13
            refine zr_istore (pc := 75) hV [some (ZR 0), some (ZI high), some (ZI r1), some (ZI (σ1 0 15)), some (ZI x4_13)] dX12_number_75 (by decide) rfl rfl ?_
            refine zr_aload_n (pc := 77) hV dX12_number_77 rfl rfl ?_
            refine zr_dup (pc := 78) hV dX12_number_78 (fun _ => rfl) ?_
            refine zr_getI (pc := 79) hV 15 dX12_number_79 fX12_200 rfl rfl rfl (by decide) ?_
            have t49 := zx_g15 hσ_13
            refine zr_iconst (pc := 82) hV 1 dX12_number_82 rfl ?_
            refine zr_iadd (pc := 83) hV dX12_number_83 ?_
            refine zr_putI (pc := 84) hV 15 dX12_number_84 fX12_200 rfl rfl rfl rfl (by decide) (fun σ84 eσ84 => ?_)
            have hσ84 : zx_T σ84 := zx_u15 eσ84 hσ_13 (by omega)
            have hFσ84 : ∀ a i : Int, (¬ (a = 0 ∧ i = 15)) → σ84 a i = σ a i := fun a i h => by rw [eσ84, zq_up_ne h]; exact hFσ_13 a i h
            refine zr_goto (pc := 87) hV 13 dX12_number_87 (by decide) ?_
            have t50 := zx_g15 hσ84
            have t51 : σ84 0 15 = (σ_13 0 15) + 1 := by rw [eσ84]; exact zq_up_same _ _ _ _
            have t52 := zx_g15 hσ84
            have t53 : σ84 0 15 = (σ_13 0 15) + 1 := by rw [eσ84]; exact zq_up_same _ _ _ _
            have t54 := zx_g15 hσ84
            have t55 : σ84 0 15 = (σ_13 0 15) + 1 := by rw [eσ84]; exact zq_up_same _ _ _ _
            have t56 := zx_g15 hσ84
            have t57 : σ84 0 15 = (σ_13 0 15) + 1 := by rw [eσ84]; exact zq_up_same _ _ _ _
            exact ih13 x4_13 σ84 (by omega) hσ84 hFσ84 (by omega) (by rw [show σ84 0 15 = σ_13 0 15 + 1 by omega, ← zt_de_y (t := σ 10) (n := σ 0 14) (a := σ_13 0 15) ⟨by omega, by omega, by omega⟩]; exact hi13_1) (by rw [show σ84 0 15 = σ_13 0 15 + 1 by omega, zt_dv_s (t := σ 10) (s := (zt_sk (σ 10) (σ 0 14) (σ 0 15))) (a := σ_13 0 15) (by omega)]; omega) (by omega)
  have t58 := zx_g15 hσ1
  have t59 := zx_g15 hσ1
  have t60 := zx_g15 hσ1
  have t61 := zx_g15 hσ1
  exact L13 (80 - σ1 0 15 + 1 : Int).toNat 0 σ1 (by omega) hσ1 hFσ1 (by omega) (by rw [show σ1 0 15 = (zt_sk (σ 10) (σ 0 14) (σ 0 15)) by omega]) (by rw [show σ1 0 15 = (zt_sk (σ 10) (σ 0 14) (σ 0 15)) by omega, zt_dv_0]; omega) (by omega)
set_option maxHeartbeats 800000 in
theorem c_X12_readName2 {σ : zq_S} (hσ : zx_T σ)  : zq_C zx_w yX12_readName cX12_readName 3 (some .int) 1 25 41 41 [ZR 0] σ (zq_pi (fun r τ => zx_T τ ∧ (∀ a i : Int, (¬ (a = 0 ∧ i = 15) ∧ ¬ (a = 0 ∧ i = 16)) → τ a i = σ a i) ∧ (τ 0 16 = (zt_sk (σ 10) (σ 0 14) (σ 0 15)) ∧ τ 0 15 = (zt_sk (σ 10) (σ 0 14) (σ 0 15)) + (zt_nl (σ 10) (σ 0 14) (zt_sk (σ 10) (σ 0 14) (σ 0 15))) ∧ r = zt_nb (σ 10) (zt_sk (σ 10) (σ 0 14) (σ 0 15)) (zt_nl (σ 10) (σ 0 14) (zt_sk (σ 10) (σ 0 14) (σ 0 15))) ∧ 0 ≤ r ∧ r ≤ 19682))) := by
  refine zq_C_of (by decide) (Nat.le_refl _) (Nat.le_of_ble_eq_true rfl) [some (ZR 0), none, none] rfl (fun V hV => ?_)
  have z14 := zx_g14 hσ
  have zb := zt_nl_b (σ 10) (σ 0 14) (zt_sk (σ 10) (σ 0 14) (σ 0 15))
  show V 0 [some (ZR 0), none, none] [] 41 σ
  refine zr_aload_n (pc := 0) hV dX12_readName_0 rfl rfl ?_
  refine zr_callVi (pc := 1) hV [] (st := []) (c_X12_next2 (σ := σ) hσ ) dX12_readName_1 mX12_203 rfl (by decide) (by decide) (Nat.le_of_ble_eq_true rfl) (Nat.le_refl _) (fun r1 σ1 hr1 pσ1 => ?_)
  obtain ⟨hσ1, hfσ1, pσ1⟩ := pσ1
  have hFσ1 : ∀ a i : Int, (¬ (a = 0 ∧ i = 15) ∧ ¬ (a = 0 ∧ i = 16)) → σ1 a i = σ a i := fun a i h => (hfσ1 a i h.1)
  have t1 := zx_g14 hσ
  have t2 := zx_g15 hσ
  have t3 := zx_g15 hσ1
  refine zr_istore_n (pc := 4) hV [some (ZR 0), some (ZI r1), none] dX12_readName_4 rfl (by decide) rfl rfl ?_
  refine zr_aload_n (pc := 5) hV dX12_readName_5 rfl rfl ?_
  refine zr_aload_n (pc := 6) hV dX12_readName_6 rfl rfl ?_
  refine zr_getI (pc := 7) hV 15 dX12_readName_7 fX12_200 rfl rfl rfl (by decide) ?_
  have t4 := zx_g15 hσ1
  refine zr_putI (pc := 10) hV 16 dX12_readName_10 fX12_211 rfl rfl rfl rfl (by decide) (fun σ10 eσ10 => ?_)
  have hσ10 : zx_T σ10 := zx_u16 eσ10 hσ1 (by omega)
  have hFσ10 : ∀ a i : Int, (¬ (a = 0 ∧ i = 15) ∧ ¬ (a = 0 ∧ i = 16)) → σ10 a i = σ a i := fun a i h => by rw [eσ10, zq_up_ne h.2]; exact hFσ1 a i h
  refine zr_iconst (pc := 13) hV 0 dX12_readName_13 rfl ?_
  refine zr_istore_n (pc := 14) hV [some (ZR 0), some (ZI r1), some (ZI 0)] dX12_readName_14 rfl (by decide) rfl rfl ?_
  have L15 : ∀ (fuel : Nat) (x1_15 : Int) (x2_15 : Int) (σ_15 : zq_S), ((-2147483648) ≤ x1_15 ∧ x1_15 ≤ 2147483647) → (0 ≤ x2_15 ∧ x2_15 ≤ 19682) → (zx_T σ_15) → (∀ a i : Int, (¬ (a = 0 ∧ i = 15) ∧ ¬ (a = 0 ∧ i = 16)) → σ_15 a i = σ a i) → ((σ_15 0 15 < σ 0 14 → x1_15 = σ 10 (σ_15 0 15)) ∧ (¬ σ_15 0 15 < σ 0 14 → x1_15 = -1)) → (σ_15 0 16 = (zt_sk (σ 10) (σ 0 14) (σ 0 15))) → ((zt_sk (σ 10) (σ 0 14) (σ 0 15)) ≤ σ_15 0 15) → (σ_15 0 15 - (zt_sk (σ 10) (σ 0 14) (σ 0 15)) ≤ (zt_nl (σ 10) (σ 0 14) (zt_sk (σ 10) (σ 0 14) (σ 0 15)))) → (x2_15 = zt_nb (σ 10) (zt_sk (σ 10) (σ 0 14) (σ 0 15)) (σ_15 0 15 - (zt_sk (σ 10) (σ 0 14) (σ 0 15)))) → ((σ_15 0 15 = (zt_sk (σ 10) (σ 0 14) (σ 0 15)) → x2_15 = 0) ∧ (σ_15 0 15 = (zt_sk (σ 10) (σ 0 14) (σ 0 15)) + 1 → x2_15 ≤ 26) ∧ (σ_15 0 15 = (zt_sk (σ 10) (σ 0 14) (σ 0 15)) + 2 → x2_15 ≤ 728)) → 80 - σ_15 0 15 < (fuel : Int) → V 15 [some (ZR 0), some (ZI x1_15), some (ZI x2_15)] [] 41 σ_15 := by
    intro fuel
    induction fuel with
    | zero =>
      intro x1_15 x2_15 σ_15 hx1_15 hx2_15 hσ_15 hFσ_15 hi15_0 hi15_1 hi15_2 hi15_3 hi15_4 hi15_5 hm15
      have t5 := zx_g15 hσ_15
      exfalso; omega
    | succ fuel ih =>
      intro x1_15 x2_15 σ_15 hx1_15 hx2_15 hσ_15 hFσ_15 hi15_0 hi15_1 hi15_2 hi15_3 hi15_4 hi15_5 hm15
      have ih15 := ih
      show V 15 [some (ZR 0), some (ZI x1_15), some (ZI x2_15)] [] 41 σ_15
      refine zr_iload_n (pc := 15) hV dX12_readName_15 rfl rfl ?_
      refine zr_i2l (pc := 16) hV dX12_readName_16 (by omega) ?_
      refine zr_ldc2 (pc := 17) (v := 97) hV 97 dX12_readName_17 kX12_214 (by decide) ?_
      refine zr_ldc2 (pc := 20) (v := 122) hV 122 dX12_readName_20 kX12_216 (by decide) ?_
      refine zr_callSp (pc := 23) hV [ZL x1_15, ZL 97, ZL 122] (st := []) (c_X12_in (σ := σ_15) x1_15 97 122 (by omega) (by omega) (by omega)) dX12_readName_23 mX12_170 (by decide) (Nat.le_of_ble_eq_true rfl) (Nat.le_refl _) (fun r23 hr23 pr23 => ?_)
      refine zr_if_eq (pc := 26) hV 92 dX12_readName_26 (by decide) (by omega) (fun c6 => ?_) (fun c6 => ?_)
      · show V 92 [some (ZR 0), some (ZI x1_15), some (ZI x2_15)] [] 41 σ_15
        have zl := zt_nl_le (t := σ 10) (n := σ 0 14) (s := (zt_sk (σ 10) (σ 0 14) (σ 0 15))) (a := σ_15 0 15) (by omega) (by omega)
        refine zr_iload_n (pc := 92) hV dX12_readName_92 rfl rfl ?_
        have t7 := zx_g15 hσ_15
        have t8 := zx_g16 hσ_15
        exact zr_iret (pc := 93) hV dX12_readName_93 rfl rfl ⟨_, rfl, (by omega), hσ_15, hFσ_15, ⟨by omega, by omega, by rw [show (zt_nl (σ 10) (σ 0 14) (zt_sk (σ 10) (σ 0 14) (σ 0 15))) = σ_15 0 15 - (zt_sk (σ 10) (σ 0 14) (σ 0 15)) by omega]; omega, by omega, by omega⟩⟩
      · show V 29 [some (ZR 0), some (ZI x1_15), some (ZI x2_15)] [] 41 σ_15
        refine zr_aload_n (pc := 29) hV dX12_readName_29 rfl rfl ?_
        refine zr_getI (pc := 30) hV 15 dX12_readName_30 fX12_200 rfl rfl rfl (by decide) ?_
        have t9 := zx_g15 hσ_15
        refine zr_aload_n (pc := 33) hV dX12_readName_33 rfl rfl ?_
        refine zr_getI (pc := 34) hV 16 dX12_readName_34 fX12_211 rfl rfl rfl (by decide) ?_
        have t10 := zx_g16 hσ_15
        refine zr_iconst (pc := 37) hV 3 dX12_readName_37 rfl ?_
        refine zr_iadd (pc := 38) hV dX12_readName_38 ?_
        refine zr_icmp_ge (pc := 39) hV 92 dX12_readName_39 (by decide) (by omega) (by omega) (fun c11 => ?_) (fun c11 => ?_)
        · show V 92 [some (ZR 0), some (ZI x1_15), some (ZI x2_15)] [] 41 σ_15
          have zl := zt_nl_le (t := σ 10) (n := σ 0 14) (s := (zt_sk (σ 10) (σ 0 14) (σ 0 15))) (a := σ_15 0 15) (by omega) (by omega)
          refine zr_iload_n (pc := 92) hV dX12_readName_92 rfl rfl ?_
          have t12 := zx_g15 hσ_15
          have t13 := zx_g16 hσ_15
          exact zr_iret (pc := 93) hV dX12_readName_93 rfl rfl ⟨_, rfl, (by omega), hσ_15, hFσ_15, ⟨by omega, by omega, by rw [show (zt_nl (σ 10) (σ 0 14) (zt_sk (σ 10) (σ 0 14) (σ 0 15))) = σ_15 0 15 - (zt_sk (σ 10) (σ 0 14) (σ 0 15)) by omega]; omega, by omega, by omega⟩⟩
        · show V 42 [some (ZR 0), some (ZI x1_15), some (ZI x2_15)] [] 41 σ_15
          refine zr_bipush (pc := 42) hV 27 dX12_readName_42 (by decide) ?_
          refine zr_iload_n (pc := 44) hV dX12_readName_44 rfl rfl ?_
          refine zr_imul (pc := 45) hV dX12_readName_45 ?_
          refine zr_iload_n (pc := 46) hV dX12_readName_46 rfl rfl ?_
          refine zr_iadd (pc := 47) hV dX12_readName_47 ?_
          refine zr_bipush (pc := 48) hV 97 dX12_readName_48 (by decide) ?_
          refine zr_isub (pc := 50) hV dX12_readName_50 ?_
          refine zr_iconst (pc := 51) hV 1 dX12_readName_51 rfl ?_
          refine zr_iadd (pc := 52) hV dX12_readName_52 ?_
          refine zr_istore_n (pc := 53) hV [some (ZR 0), some (ZI x1_15), some (ZI ((((27 * x2_15) + x1_15) - 97) + 1))] dX12_readName_53 rfl (by decide) rfl rfl ?_
          refine zr_aload_n (pc := 54) hV dX12_readName_54 rfl rfl ?_
          refine zr_dup (pc := 55) hV dX12_readName_55 (fun _ => rfl) ?_
          refine zr_getI (pc := 56) hV 15 dX12_readName_56 fX12_200 rfl rfl rfl (by decide) ?_
          have t14 := zx_g15 hσ_15
          refine zr_iconst (pc := 59) hV 1 dX12_readName_59 rfl ?_
          refine zr_iadd (pc := 60) hV dX12_readName_60 ?_
          refine zr_putI (pc := 61) hV 15 dX12_readName_61 fX12_200 rfl rfl rfl rfl (by decide) (fun σ61 eσ61 => ?_)
          have hσ61 : zx_T σ61 := zx_u15 eσ61 hσ_15 (by omega)
          have hFσ61 : ∀ a i : Int, (¬ (a = 0 ∧ i = 15) ∧ ¬ (a = 0 ∧ i = 16)) → σ61 a i = σ a i := fun a i h => by rw [eσ61, zq_up_ne h.1]; exact hFσ_15 a i h
          refine zr_aload_n (pc := 64) hV dX12_readName_64 rfl rfl ?_
          refine zr_getI (pc := 65) hV 15 dX12_readName_65 fX12_200 rfl rfl rfl (by decide) ?_
          have t15 := zx_g15 hσ61
          have t16 : σ61 0 15 = (σ_15 0 15) + 1 := by rw [eσ61]; exact zq_up_same _ _ _ _
          refine zr_aload_n (pc := 68) hV dX12_readName_68 rfl rfl ?_
          refine zr_getI (pc := 69) hV 14 dX12_readName_69 fX12_197 rfl rfl rfl (by decide) ?_
          have t17 := zx_g14 hσ61
          have t18 : σ61 0 14 = σ_15 0 14 := by rw [eσ61]; exact zq_up_ne (by omega)
          have t19 : σ_15 0 14 = σ 0 14 := hFσ_15 _ _ (by omega)
          refine zr_icmp_ge (pc := 72) hV 87 dX12_readName_72 (by decide) (by omega) (by omega) (fun c20 => ?_) (fun c20 => ?_)
          · show V 87 [some (ZR 0), some (ZI x1_15), some (ZI ((((27 * x2_15) + x1_15) - 97) + 1))] [] 41 σ61
            refine zr_iconst (pc := 87) hV (-1) dX12_readName_87 rfl ?_
            show V 88 [some (ZR 0), some (ZI x1_15), some (ZI ((((27 * x2_15) + x1_15) - 97) + 1))] [ZI (-1)] 41 σ61
            refine zr_istore_n (pc := 88) hV [some (ZR 0), some (ZI (-1)), some (ZI ((((27 * x2_15) + x1_15) - 97) + 1))] dX12_readName_88 rfl (by decide) rfl rfl ?_
            refine zr_goto (pc := 89) hV 15 dX12_readName_89 (by decide) ?_
            have t21 := zx_g15 hσ61
            have t22 : σ61 0 15 = (σ_15 0 15) + 1 := by rw [eσ61]; exact zq_up_same _ _ _ _
            have t23 := zx_g16 hσ61
            have t24 : σ61 0 16 = σ_15 0 16 := by rw [eσ61]; exact zq_up_ne (by omega)
            have t25 := zx_g15 hσ61
            have t26 : σ61 0 15 = (σ_15 0 15) + 1 := by rw [eσ61]; exact zq_up_same _ _ _ _
            have t27 := zx_g15 hσ61
            have t28 : σ61 0 15 = (σ_15 0 15) + 1 := by rw [eσ61]; exact zq_up_same _ _ _ _
            have t29 := zx_g15 hσ61
            have t30 : σ61 0 15 = (σ_15 0 15) + 1 := by rw [eσ61]; exact zq_up_same _ _ _ _
            have t31 := zx_g15 hσ61
            have t32 : σ61 0 15 = (σ_15 0 15) + 1 := by rw [eσ61]; exact zq_up_same _ _ _ _
            have t33 := zx_g15 hσ61
            have t34 : σ61 0 15 = (σ_15 0 15) + 1 := by rw [eσ61]; exact zq_up_same _ _ _ _
            exact ih15 (-1) ((((27 * x2_15) + x1_15) - 97) + 1) σ61 (by omega) (by omega) hσ61 hFσ61 ⟨fun h => absurd h (by omega), fun _ => rfl⟩ (by omega) (by omega) (by have := zt_nl_ge (t := σ 10) (n := σ 0 14) (s := (zt_sk (σ 10) (σ 0 14) (σ 0 15))) (a := σ_15 0 15) (by omega) (by omega) ⟨by omega, by omega, by omega⟩ (by omega); omega) (by rw [show σ61 0 15 - (zt_sk (σ 10) (σ 0 14) (σ 0 15)) = σ_15 0 15 + 1 - (zt_sk (σ 10) (σ 0 14) (σ 0 15)) by omega, zt_nb_s (by omega) (by omega)]; omega) (by omega) (by omega)
          · show V 75 [some (ZR 0), some (ZI x1_15), some (ZI ((((27 * x2_15) + x1_15) - 97) + 1))] [] 41 σ61
            refine zr_aload_n (pc := 75) hV dX12_readName_75 rfl rfl ?_
            refine zr_getR (pc := 76) hV 13 10 dX12_readName_76 fX12_47 rfl rfl rfl (by decide) (zx_g13 hσ61) (by omega) ?_
            refine zr_aload_n (pc := 79) hV dX12_readName_79 rfl rfl ?_
            refine zr_getI (pc := 80) hV 15 dX12_readName_80 fX12_200 rfl rfl rfl (by decide) ?_
            have t35 := zx_g15 hσ61
            have t36 : σ61 0 15 = (σ_15 0 15) + 1 := by rw [eσ61]; exact zq_up_same _ _ _ _
            refine zr_iald (pc := 83) hV dX12_readName_83 rfl (by decide) rfl (by omega) ?_
            have t37 := zx_ga10 hσ61 (σ61 0 15)
            have t38 : σ61 10 (σ61 0 15) = σ_15 10 (σ61 0 15) := by rw [eσ61]; exact zq_up_ne (by omega)
            have t39 : σ_15 10 (σ61 0 15) = σ 10 (σ61 0 15) := hFσ_15 _ _ (by omega)
            refine zr_goto (pc := 84) hV 88 dX12_readName_84 (by decide) ?_
            show V 88 [some (ZR 0), some (ZI x1_15), some (ZI ((((27 * x2_15) + x1_15) - 97) + 1))] [ZI (σ61 10 (σ61 0 15))] 41 σ61
            refine zr_istore_n (pc := 88) hV [some (ZR 0), some (ZI (σ61 10 (σ61 0 15))), some (ZI ((((27 * x2_15) + x1_15) - 97) + 1))] dX12_readName_88 rfl (by decide) rfl rfl ?_
            refine zr_goto (pc := 89) hV 15 dX12_readName_89 (by decide) ?_
            have t40 := zx_g15 hσ61
            have t41 : σ61 0 15 = (σ_15 0 15) + 1 := by rw [eσ61]; exact zq_up_same _ _ _ _
            have t42 := zx_g16 hσ61
            have t43 : σ61 0 16 = σ_15 0 16 := by rw [eσ61]; exact zq_up_ne (by omega)
            have t44 := zx_g15 hσ61
            have t45 : σ61 0 15 = (σ_15 0 15) + 1 := by rw [eσ61]; exact zq_up_same _ _ _ _
            have t46 := zx_g15 hσ61
            have t47 : σ61 0 15 = (σ_15 0 15) + 1 := by rw [eσ61]; exact zq_up_same _ _ _ _
            have t48 := zx_g15 hσ61
            have t49 : σ61 0 15 = (σ_15 0 15) + 1 := by rw [eσ61]; exact zq_up_same _ _ _ _
            have t50 := zx_g15 hσ61
            have t51 : σ61 0 15 = (σ_15 0 15) + 1 := by rw [eσ61]; exact zq_up_same _ _ _ _
            have t52 := zx_g15 hσ61
            have t53 : σ61 0 15 = (σ_15 0 15) + 1 := by rw [eσ61]; exact zq_up_same _ _ _ _
            exact ih15 (σ61 10 (σ61 0 15)) ((((27 * x2_15) + x1_15) - 97) + 1) σ61 (by omega) (by omega) hσ61 hFσ61 ⟨fun _ => by omega, fun h => absurd (by omega) h⟩ (by omega) (by omega) (by have := zt_nl_ge (t := σ 10) (n := σ 0 14) (s := (zt_sk (σ 10) (σ 0 14) (σ 0 15))) (a := σ_15 0 15) (by omega) (by omega) ⟨by omega, by omega, by omega⟩ (by omega); omega) (by rw [show σ61 0 15 - (zt_sk (σ 10) (σ 0 14) (σ 0 15)) = σ_15 0 15 + 1 - (zt_sk (σ 10) (σ 0 14) (σ 0 15)) by omega, zt_nb_s (by omega) (by omega)]; omega) (by omega) (by omega)
  have t54 := zx_g15 hσ10
  have t55 : σ10 0 15 = σ1 0 15 := by rw [eσ10]; exact zq_up_ne (by omega)
  have t56 := zx_g16 hσ10
  have t57 : σ10 0 16 = σ1 0 15 := by rw [eσ10]; exact zq_up_same _ _ _ _
  have t58 := zx_g15 hσ10
  have t59 : σ10 0 15 = σ1 0 15 := by rw [eσ10]; exact zq_up_ne (by omega)
  have t60 := zx_g15 hσ10
  have t61 : σ10 0 15 = σ1 0 15 := by rw [eσ10]; exact zq_up_ne (by omega)
  have t62 := zx_g15 hσ10
  have t63 : σ10 0 15 = σ1 0 15 := by rw [eσ10]; exact zq_up_ne (by omega)
  have t64 := zx_g15 hσ10
  have t65 : σ10 0 15 = σ1 0 15 := by rw [eσ10]; exact zq_up_ne (by omega)
  have t66 := zx_g15 hσ10
  have t67 : σ10 0 15 = σ1 0 15 := by rw [eσ10]; exact zq_up_ne (by omega)
  exact L15 (80 - σ10 0 15 + 1 : Int).toNat r1 0 σ10 (by omega) (by omega) hσ10 hFσ10 ⟨fun h => (by rw [show σ10 0 15 = (zt_sk (σ 10) (σ 0 14) (σ 0 15)) by omega, ← zt_nx_y (t := σ 10) (n := σ 0 14) (a := σ 0 15) (by omega)]; omega), fun h => (by have := zt_nx_n (t := σ 10) (n := σ 0 14) (a := σ 0 15) (by omega); omega)⟩ (by omega) (by omega) (by omega) (by rw [show σ10 0 15 - (zt_sk (σ 10) (σ 0 14) (σ 0 15)) = 0 by omega, zt_nb_0]) (by omega) (by omega)
