set_option maxHeartbeats 800000 in
theorem c_X6_noteAhead_2 {σ : zq_S} (hσ : zc_T σ) (row : Int) (krow : zc_kd row = 154) (place : Int) (q0 : 0 ≤ place ∧ place ≤ 63) : zq_C zc_w yX6_noteAhead cX6_noteAhead 3 (none) 0 0 284 284 [ZR 140, ZR row, ZI place] σ (zq_pv (fun τ => zc_T τ ∧ zc_Fr [(154, -1)] σ τ ∧ (τ row 0 = σ 141 4 ∧ τ row 1 = σ 141 3 ∧ τ row 2 = σ 254 place ∧ τ row 3 = σ 140 9 ∧ τ row 4 = σ 140 10 ∧ τ row 5 = σ 140 11) ∧ zq_hid (∀ a i, a ≠ row → τ a i = σ a i))) := by
  refine zq_C_of (by decide) (Nat.le_refl _) (Nat.le_of_ble_eq_true rfl) [some (ZR 140), some (ZR row), some (ZI place)] rfl (fun V hV => ?_)
  have porow := zc_pos krow rfl
  have hFσ := zc_Fr_rf [(154, -1)] σ
  show V 0 [some (ZR 140), some (ZR row), some (ZI place)] [] 284 σ
  refine zr_aload_n (pc := 0) hV dX6_noteAhead_0 rfl rfl ?_
  refine zr_iconst (pc := 1) hV 0 dX6_noteAhead_1 rfl ?_
  refine zr_aload_n (pc := 2) hV dX6_noteAhead_2 rfl rfl ?_
  refine zr_getR (pc := 3) hV 2 141 dX6_noteAhead_3 fX6_16 rfl rfl (zc_k140 zc_s140) (zc_pos zc_s140 rfl) (zc_g140_2 hσ zc_s140) (by decide) ?_
  refine zr_getI (pc := 6) hV 4 dX6_noteAhead_6 fX6_85 rfl rfl (zc_k141 zc_s141) (zc_pos zc_s141 rfl) ?_
  have t1 := zc_g141_4 hσ zc_s141
  refine zr_iast (pc := 9) hV dX6_noteAhead_9 (zc_k154 krow) (zc_pos krow rfl) rfl (by omega) (fun σ9 eσ9 => ?_)
  have hσ9 : zc_T σ9 := zc_ua154 eσ9 hσ krow (by omega)
  have hFσ9 := zc_Fa eσ9 krow rfl hFσ
  refine zr_aload_n (pc := 10) hV dX6_noteAhead_10 rfl rfl ?_
  refine zr_iconst (pc := 11) hV 1 dX6_noteAhead_11 rfl ?_
  refine zr_aload_n (pc := 12) hV dX6_noteAhead_12 rfl rfl ?_
  refine zr_getR (pc := 13) hV 2 141 dX6_noteAhead_13 fX6_16 rfl rfl (zc_k140 zc_s140) (zc_pos zc_s140 rfl) (zc_g140_2 hσ9 zc_s140) (by decide) ?_
  refine zr_getI (pc := 16) hV 3 dX6_noteAhead_16 fX6_112 rfl rfl (zc_k141 zc_s141) (zc_pos zc_s141 rfl) ?_
  have t2 := zc_g141_3 hσ9 zc_s141
  have t3 : σ9 141 3 = σ 141 3 := by rw [eσ9]; exact zq_up_ne (zc_dk zc_s141 krow rfl)
  refine zr_iast (pc := 19) hV dX6_noteAhead_19 (zc_k154 krow) (zc_pos krow rfl) rfl (by omega) (fun σ19 eσ19 => ?_)
  have hσ19 : zc_T σ19 := zc_ua154 eσ19 hσ9 krow (by omega)
  have hFσ19 := zc_Fa eσ19 krow rfl hFσ9
  refine zr_aload_n (pc := 20) hV dX6_noteAhead_20 rfl rfl ?_
  refine zr_iconst (pc := 21) hV 2 dX6_noteAhead_21 rfl ?_
  refine zr_aload_n (pc := 22) hV dX6_noteAhead_22 rfl rfl ?_
  refine zr_getR (pc := 23) hV 7 254 dX6_noteAhead_23 fX6_28 rfl rfl (zc_k140 zc_s140) (zc_pos zc_s140 rfl) (zc_g140_7 hσ19 zc_s140) (by decide) ?_
  refine zr_iload_n (pc := 26) hV dX6_noteAhead_26 rfl rfl ?_
  refine zr_iald (pc := 27) hV dX6_noteAhead_27 (zc_k254 zc_s254) (zc_pos zc_s254 rfl) rfl (by omega) ?_
  have t4 := zc_ga254 hσ19 zc_s254 place
  have t5 : σ19 254 place = σ9 254 place := by rw [eσ19]; exact zq_up_ne (zc_dk zc_s254 krow rfl)
  have t6 : σ9 254 place = σ 254 place := by rw [eσ9]; exact zq_up_ne (zc_dk zc_s254 krow rfl)
  refine zr_iast (pc := 28) hV dX6_noteAhead_28 (zc_k154 krow) (zc_pos krow rfl) rfl (by omega) (fun σ28 eσ28 => ?_)
  have hσ28 : zc_T σ28 := zc_ua154 eσ28 hσ19 krow (by omega)
  have hFσ28 := zc_Fa eσ28 krow rfl hFσ19
  refine zr_aload_n (pc := 29) hV dX6_noteAhead_29 rfl rfl ?_
  refine zr_iconst (pc := 30) hV 3 dX6_noteAhead_30 rfl ?_
  refine zr_aload_n (pc := 31) hV dX6_noteAhead_31 rfl rfl ?_
  refine zr_getI (pc := 32) hV 9 dX6_noteAhead_32 fX6_53 rfl rfl (zc_k140 zc_s140) (zc_pos zc_s140 rfl) ?_
  have t7 := zc_g140_9 hσ28 zc_s140
  have t8 : σ28 140 9 = σ19 140 9 := by rw [eσ28]; exact zq_up_ne (zc_dk zc_s140 krow rfl)
  have t9 : σ19 140 9 = σ9 140 9 := by rw [eσ19]; exact zq_up_ne (zc_dk zc_s140 krow rfl)
  have t10 : σ9 140 9 = σ 140 9 := by rw [eσ9]; exact zq_up_ne (zc_dk zc_s140 krow rfl)
  refine zr_iast (pc := 35) hV dX6_noteAhead_35 (zc_k154 krow) (zc_pos krow rfl) rfl (by omega) (fun σ35 eσ35 => ?_)
  have hσ35 : zc_T σ35 := zc_ua154 eσ35 hσ28 krow (by omega)
  have hFσ35 := zc_Fa eσ35 krow rfl hFσ28
  refine zr_aload_n (pc := 36) hV dX6_noteAhead_36 rfl rfl ?_
  refine zr_iconst (pc := 37) hV 4 dX6_noteAhead_37 rfl ?_
  refine zr_aload_n (pc := 38) hV dX6_noteAhead_38 rfl rfl ?_
  refine zr_getI (pc := 39) hV 10 dX6_noteAhead_39 fX6_56 rfl rfl (zc_k140 zc_s140) (zc_pos zc_s140 rfl) ?_
  have t11 := zc_g140_10 hσ35 zc_s140
  have t12 : σ35 140 10 = σ28 140 10 := by rw [eσ35]; exact zq_up_ne (zc_dk zc_s140 krow rfl)
  have t13 : σ28 140 10 = σ19 140 10 := by rw [eσ28]; exact zq_up_ne (zc_dk zc_s140 krow rfl)
  have t14 : σ19 140 10 = σ9 140 10 := by rw [eσ19]; exact zq_up_ne (zc_dk zc_s140 krow rfl)
  have t15 : σ9 140 10 = σ 140 10 := by rw [eσ9]; exact zq_up_ne (zc_dk zc_s140 krow rfl)
  refine zr_iast (pc := 42) hV dX6_noteAhead_42 (zc_k154 krow) (zc_pos krow rfl) rfl (by omega) (fun σ42 eσ42 => ?_)
  have hσ42 : zc_T σ42 := zc_ua154 eσ42 hσ35 krow (by omega)
  have hFσ42 := zc_Fa eσ42 krow rfl hFσ35
  refine zr_aload_n (pc := 43) hV dX6_noteAhead_43 rfl rfl ?_
  refine zr_iconst (pc := 44) hV 5 dX6_noteAhead_44 rfl ?_
  refine zr_aload_n (pc := 45) hV dX6_noteAhead_45 rfl rfl ?_
  refine zr_getI (pc := 46) hV 11 dX6_noteAhead_46 fX6_59 rfl rfl (zc_k140 zc_s140) (zc_pos zc_s140 rfl) ?_
  have t16 := zc_g140_11 hσ42 zc_s140
  have t17 : σ42 140 11 = σ35 140 11 := by rw [eσ42]; exact zq_up_ne (zc_dk zc_s140 krow rfl)
  have t18 : σ35 140 11 = σ28 140 11 := by rw [eσ35]; exact zq_up_ne (zc_dk zc_s140 krow rfl)
  have t19 : σ28 140 11 = σ19 140 11 := by rw [eσ28]; exact zq_up_ne (zc_dk zc_s140 krow rfl)
  have t20 : σ19 140 11 = σ9 140 11 := by rw [eσ19]; exact zq_up_ne (zc_dk zc_s140 krow rfl)
  have t21 : σ9 140 11 = σ 140 11 := by rw [eσ9]; exact zq_up_ne (zc_dk zc_s140 krow rfl)
  refine zr_iast (pc := 49) hV dX6_noteAhead_49 (zc_k154 krow) (zc_pos krow rfl) rfl (by omega) (fun σ49 eσ49 => ?_)
  have hσ49 : zc_T σ49 := zc_ua154 eσ49 hσ42 krow (by omega)
  have hFσ49 := zc_Fa eσ49 krow rfl hFσ42
  have t22 := zc_ga154 hσ49 krow 0
  have t23 : σ49 row 0 = σ42 row 0 := by rw [eσ49]; exact zq_up_ne (by omega)
  have t24 : σ42 row 0 = σ35 row 0 := by rw [eσ42]; exact zq_up_ne (by omega)
  have t25 : σ35 row 0 = σ28 row 0 := by rw [eσ35]; exact zq_up_ne (by omega)
  have t26 : σ28 row 0 = σ19 row 0 := by rw [eσ28]; exact zq_up_ne (by omega)
  have t27 : σ19 row 0 = σ9 row 0 := by rw [eσ19]; exact zq_up_ne (by omega)
  have t28 : σ9 row 0 = σ 141 4 := by rw [eσ9]; exact zq_up_same _ _ _ _
  have t29 := zc_ga154 hσ49 krow 1
  have t30 : σ49 row 1 = σ42 row 1 := by rw [eσ49]; exact zq_up_ne (by omega)
  have t31 : σ42 row 1 = σ35 row 1 := by rw [eσ42]; exact zq_up_ne (by omega)
  have t32 : σ35 row 1 = σ28 row 1 := by rw [eσ35]; exact zq_up_ne (by omega)
  have t33 : σ28 row 1 = σ19 row 1 := by rw [eσ28]; exact zq_up_ne (by omega)
  have t34 : σ19 row 1 = σ9 141 3 := by rw [eσ19]; exact zq_up_same _ _ _ _
  have t35 := zc_ga154 hσ49 krow 2
  have t36 : σ49 row 2 = σ42 row 2 := by rw [eσ49]; exact zq_up_ne (by omega)
  have t37 : σ42 row 2 = σ35 row 2 := by rw [eσ42]; exact zq_up_ne (by omega)
  have t38 : σ35 row 2 = σ28 row 2 := by rw [eσ35]; exact zq_up_ne (by omega)
  have t39 : σ28 row 2 = σ19 254 place := by rw [eσ28]; exact zq_up_same _ _ _ _
  have t40 := zc_ga154 hσ49 krow 3
  have t41 : σ49 row 3 = σ42 row 3 := by rw [eσ49]; exact zq_up_ne (by omega)
  have t42 : σ42 row 3 = σ35 row 3 := by rw [eσ42]; exact zq_up_ne (by omega)
  have t43 : σ35 row 3 = σ28 140 9 := by rw [eσ35]; exact zq_up_same _ _ _ _
  have t44 := zc_ga154 hσ49 krow 4
  have t45 : σ49 row 4 = σ42 row 4 := by rw [eσ49]; exact zq_up_ne (by omega)
  have t46 : σ42 row 4 = σ35 140 10 := by rw [eσ42]; exact zq_up_same _ _ _ _
  have t47 := zc_ga154 hσ49 krow 5
  have t48 : σ49 row 5 = σ42 140 11 := by rw [eσ49]; exact zq_up_same _ _ _ _
  exact zr_vret (pc := 50) hV dX6_noteAhead_50 rfl rfl ⟨rfl, hσ49, hFσ49, (by omega), (show ∀ a i, a ≠ row → σ49 a i = σ a i from (fun a i h => by rw [eσ49, zq_up_ne (by omega), eσ42, zq_up_ne (by omega), eσ35, zq_up_ne (by omega), eσ28, zq_up_ne (by omega), eσ19, zq_up_ne (by omega), eσ9, zq_up_ne (by omega)]))⟩
set_option maxHeartbeats 800000 in
theorem c_X6_noteChanges_2 {σ : zq_S} (hσ : zc_T σ) (row : Int) (krow : zc_kd row = 154)  : zq_C zc_w yX6_noteChanges cX6_noteChanges 3 (none) 1 21 284 284 [ZR 140, ZR row] σ (zq_pv (fun τ => zc_T τ ∧ zc_Fr [(140, 5), (140, 6), (154, -1)] σ τ ∧ (τ 140 6 = (σ 140 6 + 1) % 100 ∧ τ 140 5 = (if σ 140 5 < 100 then σ 140 5 + 1 else 100)) ∧ zq_hid (zs_nc σ τ row))) := by
  refine zq_C_of (by decide) (Nat.le_refl _) (Nat.le_of_ble_eq_true rfl) [some (ZR 140), some (ZR row), none] rfl (fun V hV => ?_)
  have porow := zc_pos krow rfl
  have hFσ := zc_Fr_rf [(140, 5), (140, 6), (154, -1)] σ
  have nr := zs_ne154 krow
  show V 0 [some (ZR 140), some (ZR row), none] [] 284 σ
  refine zr_aload_n (pc := 0) hV dX6_noteChanges_0 rfl rfl ?_
  refine zr_bipush (pc := 1) hV 6 dX6_noteChanges_1 (by decide) ?_
  refine zr_aload_n (pc := 3) hV dX6_noteChanges_3 rfl rfl ?_
  refine zr_getR (pc := 4) hV 2 141 dX6_noteChanges_4 fX6_16 rfl rfl (zc_k140 zc_s140) (zc_pos zc_s140 rfl) (zc_g140_2 hσ zc_s140) (by decide) ?_
  refine zr_getI (pc := 7) hV 6 dX6_noteChanges_7 fX6_115 rfl rfl (zc_k141 zc_s141) (zc_pos zc_s141 rfl) ?_
  have t1 := zc_g141_6 hσ zc_s141
  refine zr_iast (pc := 10) hV dX6_noteChanges_10 (zc_k154 krow) (zc_pos krow rfl) rfl (by omega) (fun σ10 eσ10 => ?_)
  have hσ10 : zc_T σ10 := zc_ua154 eσ10 hσ krow (by omega)
  have hFσ10 := zc_Fa eσ10 krow rfl hFσ
  refine zr_iconst (pc := 11) hV 0 dX6_noteChanges_11 rfl ?_
  refine zr_istore_n (pc := 12) hV [some (ZR 140), some (ZR row), some (ZI 0)] dX6_noteChanges_12 rfl (by decide) rfl rfl ?_
  have L13 : ∀ (fuel : Nat) (x2_13 : Int) (σ_13 : zq_S), (0 ≤ x2_13 ∧ x2_13 ≤ 3) → (zc_T σ_13) → (zc_Fr [(140, 5), (140, 6), (154, -1)] σ σ_13) → (zq_hid (∀ j, 0 ≤ j → j < x2_13 → σ_13 row (7 + 2 * j) = σ 145 j ∧ σ_13 row (8 + 2 * j) = σ 146 j)) → (zq_hid (∀ i, i ≤ 5 → σ_13 row i = σ row i)) → (zq_hid (∀ a i, a ≠ row → σ_13 a i = σ a i)) → (σ_13 row 6 = σ 141 6) → (x2_13 ≤ σ 141 6) → 3 - x2_13 < (fuel : Int) → V 13 [some (ZR 140), some (ZR row), some (ZI x2_13)] [] 284 σ_13 := by
    intro fuel
    induction fuel with
    | zero =>
      intro x2_13 σ_13 hx2_13 hσ_13 hFσ_13 hi13_0 hi13_1 hi13_2 hi13_3 hi13_4 hm13
      exfalso; omega
    | succ fuel ih =>
      intro x2_13 σ_13 hx2_13 hσ_13 hFσ_13 hi13_0 hi13_1 hi13_2 hi13_3 hi13_4 hm13
      have ih13 := ih
      show V 13 [some (ZR 140), some (ZR row), some (ZI x2_13)] [] 284 σ_13
      refine zr_iload_n (pc := 13) hV dX6_noteChanges_13 rfl rfl ?_
      refine zr_aload_n (pc := 14) hV dX6_noteChanges_14 rfl rfl ?_
      refine zr_getR (pc := 15) hV 2 141 dX6_noteChanges_15 fX6_16 rfl rfl (zc_k140 zc_s140) (zc_pos zc_s140 rfl) (zc_g140_2 hσ_13 zc_s140) (by decide) ?_
      refine zr_getI (pc := 18) hV 6 dX6_noteChanges_18 fX6_115 rfl rfl (zc_k141 zc_s141) (zc_pos zc_s141 rfl) ?_
      have t2 := zc_g141_6 hσ_13 zc_s141
      have t3 : σ_13 141 6 = σ 141 6 := hFσ_13 _ _ (zc_out_at zc_s141 rfl)
      refine zr_icmp_ge (pc := 21) hV 66 dX6_noteChanges_21 (by decide) (by omega) (by omega) (fun c4 => ?_) (fun c4 => ?_)
      · show V 66 [some (ZR 140), some (ZR row), some (ZI x2_13)] [] 284 σ_13
        have k5 := hi13_2 140 5 (by omega)
        have k6 := hi13_2 140 6 (by omega)
        refine zr_aload_n (pc := 66) hV dX6_noteChanges_66 rfl rfl ?_
        refine zr_aload_n (pc := 67) hV dX6_noteChanges_67 rfl rfl ?_
        refine zr_getI (pc := 68) hV 6 dX6_noteChanges_68 fX6_94 rfl rfl (zc_k140 zc_s140) (zc_pos zc_s140 rfl) ?_
        have t5 := zc_g140_6 hσ_13 zc_s140
        refine zr_iconst (pc := 71) hV 1 dX6_noteChanges_71 rfl ?_
        refine zr_iadd (pc := 72) hV dX6_noteChanges_72 ?_
        refine zr_bipush (pc := 73) hV 100 dX6_noteChanges_73 (by decide) ?_
        refine zr_irem (pc := 75) hV dX6_noteChanges_75 ⟨by decide, by decide⟩ (by omega) ?_
        have t6 := zq_rem_c (x := (σ_13 140 6) + 1) 100 (by decide) (by omega)
        refine zr_putI (pc := 76) hV 6 dX6_noteChanges_76 fX6_94 rfl rfl rfl (zc_k140 zc_s140) (zc_pos zc_s140 rfl) (fun σ76 eσ76 => ?_)
        have hσ76 : zc_T σ76 := zc_u140_6 eσ76 hσ_13 zc_s140 (by omega)
        have hFσ76 := zc_Fw eσ76 zc_s140 rfl hFσ_13
        refine zr_aload_n (pc := 79) hV dX6_noteChanges_79 rfl rfl ?_
        refine zr_aload_n (pc := 80) hV dX6_noteChanges_80 rfl rfl ?_
        refine zr_getI (pc := 81) hV 5 dX6_noteChanges_81 fX6_65 rfl rfl (zc_k140 zc_s140) (zc_pos zc_s140 rfl) ?_
        have t7 := zc_g140_5 hσ76 zc_s140
        have t8 : σ76 140 5 = σ_13 140 5 := by rw [eσ76]; exact zq_up_ne (by omega)
        refine zr_iconst (pc := 84) hV 1 dX6_noteChanges_84 rfl ?_
        refine zr_iadd (pc := 85) hV dX6_noteChanges_85 ?_
        refine zr_bipush (pc := 86) hV 100 dX6_noteChanges_86 (by decide) ?_
        refine zr_min (pc := 88) hV (st := [ZR 140]) dX6_noteChanges_88 lX6_124 (by omega) ⟨by decide, by decide⟩ (Nat.le_of_ble_eq_true rfl) rfl rfl (fun r88 pr88 qr88 => ?_)
        refine zr_putI (pc := 91) hV 5 dX6_noteChanges_91 fX6_65 rfl rfl rfl (zc_k140 zc_s140) (zc_pos zc_s140 rfl) (fun σ91 eσ91 => ?_)
        have hσ91 : zc_T σ91 := zc_u140_5 eσ91 hσ76 zc_s140 (by omega)
        have hFσ91 := zc_Fw eσ91 zc_s140 rfl hFσ76
        have t9 := zc_g140_5 hσ91 zc_s140
        have t10 : σ91 140 5 = r88 := by rw [eσ91]; exact zq_up_same _ _ _ _
        have t11 := zc_g140_6 hσ91 zc_s140
        have t12 : σ91 140 6 = σ76 140 6 := by rw [eσ91]; exact zq_up_ne (by omega)
        have t13 : σ76 140 6 = zq_rem ((σ_13 140 6) + 1) 100 := by rw [eσ76]; exact zq_up_same _ _ _ _
        exact zr_vret (pc := 94) hV dX6_noteChanges_94 rfl rfl ⟨rfl, hσ91, hFσ91, (by omega), (show zs_nc σ σ91 row from ⟨by rw [eσ91, zq_up_ne (by omega), eσ76, zq_up_ne (by omega)]; omega, fun j j0 j1 => by rw [eσ91, zq_up_ne (by omega), eσ76, zq_up_ne (by omega), zq_up_ne (by omega), zq_up_ne (by omega)]; exact hi13_0 j j0 (by omega), fun i hi => by rw [eσ91, zq_up_ne (by omega), eσ76, zq_up_ne (by omega)]; exact hi13_1 i hi, fun a i h h2 => by rw [eσ91, zq_up_ne (by omega), eσ76, zq_up_ne (by omega)]; exact hi13_2 a i h⟩)⟩
      · show V 24 [some (ZR 140), some (ZR row), some (ZI x2_13)] [] 284 σ_13
        refine zr_aload_n (pc := 24) hV dX6_noteChanges_24 rfl rfl ?_
        refine zr_bipush (pc := 25) hV 7 dX6_noteChanges_25 (by decide) ?_
        refine zr_iconst (pc := 27) hV 2 dX6_noteChanges_27 rfl ?_
        refine zr_iload_n (pc := 28) hV dX6_noteChanges_28 rfl rfl ?_
        refine zr_imul (pc := 29) hV dX6_noteChanges_29 ?_
        refine zr_iadd (pc := 30) hV dX6_noteChanges_30 ?_
        refine zr_aload_n (pc := 31) hV dX6_noteChanges_31 rfl rfl ?_
        refine zr_getR (pc := 32) hV 2 141 dX6_noteChanges_32 fX6_16 rfl rfl (zc_k140 zc_s140) (zc_pos zc_s140 rfl) (zc_g140_2 hσ_13 zc_s140) (by decide) ?_
        refine zr_getR (pc := 35) hV 7 145 dX6_noteChanges_35 fX6_118 rfl rfl (zc_k141 zc_s141) (zc_pos zc_s141 rfl) (zc_g141_7 hσ_13 zc_s141) (by decide) ?_
        refine zr_iload_n (pc := 38) hV dX6_noteChanges_38 rfl rfl ?_
        refine zr_iald (pc := 39) hV dX6_noteChanges_39 (zc_k145 zc_s145) (zc_pos zc_s145 rfl) rfl (by omega) ?_
        have t14 := zc_ga145 hσ_13 zc_s145 x2_13
        have t15 : σ_13 145 x2_13 = σ 145 x2_13 := hFσ_13 _ _ (zc_out_ar zc_s145 rfl)
        refine zr_iast (pc := 40) hV dX6_noteChanges_40 (zc_k154 krow) (zc_pos krow rfl) rfl (by omega) (fun σ40 eσ40 => ?_)
        have hσ40 : zc_T σ40 := zc_ua154 eσ40 hσ_13 krow (by omega)
        have hFσ40 := zc_Fa eσ40 krow rfl hFσ_13
        refine zr_aload_n (pc := 41) hV dX6_noteChanges_41 rfl rfl ?_
        refine zr_bipush (pc := 42) hV 7 dX6_noteChanges_42 (by decide) ?_
        refine zr_iconst (pc := 44) hV 2 dX6_noteChanges_44 rfl ?_
        refine zr_iload_n (pc := 45) hV dX6_noteChanges_45 rfl rfl ?_
        refine zr_imul (pc := 46) hV dX6_noteChanges_46 ?_
        refine zr_iadd (pc := 47) hV dX6_noteChanges_47 ?_
        refine zr_iconst (pc := 48) hV 1 dX6_noteChanges_48 rfl ?_
        refine zr_iadd (pc := 49) hV dX6_noteChanges_49 ?_
        refine zr_aload_n (pc := 50) hV dX6_noteChanges_50 rfl rfl ?_
        refine zr_getR (pc := 51) hV 2 141 dX6_noteChanges_51 fX6_16 rfl rfl (zc_k140 zc_s140) (zc_pos zc_s140 rfl) (zc_g140_2 hσ40 zc_s140) (by decide) ?_
        refine zr_getR (pc := 54) hV 8 146 dX6_noteChanges_54 fX6_121 rfl rfl (zc_k141 zc_s141) (zc_pos zc_s141 rfl) (zc_g141_8 hσ40 zc_s141) (by decide) ?_
        refine zr_iload_n (pc := 57) hV dX6_noteChanges_57 rfl rfl ?_
        refine zr_iald (pc := 58) hV dX6_noteChanges_58 (zc_k146 zc_s146) (zc_pos zc_s146 rfl) rfl (by omega) ?_
        have t16 := zc_ga146 hσ40 zc_s146 x2_13
        have t17 : σ40 146 x2_13 = σ_13 146 x2_13 := by rw [eσ40]; exact zq_up_ne (zc_dk zc_s146 krow rfl)
        have t18 : σ_13 146 x2_13 = σ 146 x2_13 := hFσ_13 _ _ (zc_out_ar zc_s146 rfl)
        refine zr_iast (pc := 59) hV dX6_noteChanges_59 (zc_k154 krow) (zc_pos krow rfl) rfl (by omega) (fun σ59 eσ59 => ?_)
        have hσ59 : zc_T σ59 := zc_ua154 eσ59 hσ40 krow (by omega)
        have hFσ59 := zc_Fa eσ59 krow rfl hFσ40
        refine zr_iinc (pc := 60) hV [some (ZR 140), some (ZR row), some (ZI (x2_13 + 1))] (x2_13 + 1) dX6_noteChanges_60 rfl rfl (by decide) rfl rfl ?_
        refine zr_goto (pc := 63) hV 13 dX6_noteChanges_63 (by decide) ?_
        have t19 := zc_ga154 hσ59 krow 6
        have t20 : σ59 row 6 = σ40 row 6 := by rw [eσ59]; exact zq_up_ne (by omega)
        have t21 : σ40 row 6 = σ_13 row 6 := by rw [eσ40]; exact zq_up_ne (by omega)
        exact ih13 (x2_13 + 1) σ59 (by omega) hσ59 hFσ59 (fun j j0 j1 => if hc : j = x2_13 then (by rw [hc]; exact ⟨by rw [eσ59, zq_up_ne (by omega), eσ40, zq_up_same]; omega, by rw [show 8 + 2 * x2_13 = 7 + 2 * x2_13 + 1 by omega, eσ59, zq_up_same]; omega⟩) else (by rw [eσ59, zq_up_ne (by omega), eσ40, zq_up_ne (by omega), zq_up_ne (by omega), zq_up_ne (by omega)]; exact hi13_0 j j0 (by omega))) (fun i hi => by rw [eσ59, zq_up_ne (by omega), eσ40, zq_up_ne (by omega)]; exact hi13_1 i hi) (fun a i h => by rw [eσ59, zq_up_ne (by omega), eσ40, zq_up_ne (by omega)]; exact hi13_2 a i h) (by omega) (by omega) (by omega)
  have t22 := zc_ga154 hσ10 krow 6
  have t23 : σ10 row 6 = σ 141 6 := by rw [eσ10]; exact zq_up_same _ _ _ _
  exact L13 (3 - (0 : Int) + 1 : Int).toNat 0 σ10 (by omega) hσ10 hFσ10 (fun j j0 j1 => absurd j1 (by omega)) (fun i hi => by rw [eσ10, zq_up_ne (by omega)]) (fun a i h => by rw [eσ10, zq_up_ne (by omega)]) (by omega) (by omega) (by omega)
set_option maxHeartbeats 800000 in
theorem c_X6_countStep_2 {σ : zq_S} (hσ : zc_T σ) (order : Int) (korder : zc_kd order = 4) (place : Int) (q0 : 0 ≤ place ∧ place ≤ 63) (q1 : zq_hid (∀ f, 0 ≤ f → f ≤ 2 → 0 ≤ σ 144 f ∧ σ 144 f ≤ 7)) (q2 : 0 ≤ σ order 12 ∧ σ order 12 ≤ 127) (q3 : 0 ≤ σ order 13 ∧ σ order 13 ≤ 127) (q4 : 0 ≤ σ 140 14 ∧ σ 140 14 ≤ 1023) : zq_C zc_w yX6_countStep cX6_countStep 3 (none) 1 23 284 284 [ZR 140, ZR order, ZI place] σ (zq_pv (fun τ => zc_T τ ∧ zc_Fr [(140, 8), (140, 9), (140, 10), (140, 11), (140, 13), (140, 14), (254, -1)] σ τ ∧ (True) ∧ zq_hid (zs_ct σ τ (σ 144) order place (σ 141 4)))) := by
  refine zq_C_of (by decide) (Nat.le_refl _) (Nat.le_of_ble_eq_true rfl) [some (ZR 140), some (ZR order), some (ZI place)] rfl (fun V hV => ?_)
  have poorder := zc_pos korder rfl
  have hFσ := zc_Fr_rf [(140, 8), (140, 9), (140, 10), (140, 11), (140, 13), (140, 14), (254, -1)] σ
  show V 0 [some (ZR 140), some (ZR order), some (ZI place)] [] 284 σ
  refine zr_aload_n (pc := 0) hV dX6_countStep_0 rfl rfl ?_
  refine zr_dup (pc := 1) hV dX6_countStep_1 (fun _ => rfl) ?_
  refine zr_getI (pc := 2) hV 8 dX6_countStep_2 fX6_50 rfl rfl (zc_k140 zc_s140) (zc_pos zc_s140 rfl) ?_
  have t1 := zc_g140_8 hσ zc_s140
  refine zr_iconst (pc := 5) hV 1 dX6_countStep_5 rfl ?_
  refine zr_iadd (pc := 6) hV dX6_countStep_6 ?_
  refine zr_any (pc := 7) hV (fun y7 hy7 jy7 => ?_)
  have wy7 : y7 = zs_w ((σ 140 8) + 1) := zs_w_any hy7 jy7
  clear jy7
  refine zr_putI (pc := 7) hV 8 dX6_countStep_7 fX6_50 rfl rfl rfl (zc_k140 zc_s140) (zc_pos zc_s140 rfl) (fun σ7 eσ7 => ?_)
  have hσ7 : zc_T σ7 := zc_u140_8 eσ7 hσ zc_s140 (by omega)
  have hFσ7 := zc_Fw eσ7 zc_s140 rfl hFσ
  refine zr_aload_n (pc := 10) hV dX6_countStep_10 rfl rfl ?_
  refine zr_dup (pc := 11) hV dX6_countStep_11 (fun _ => rfl) ?_
  refine zr_getI (pc := 12) hV 9 dX6_countStep_12 fX6_53 rfl rfl (zc_k140 zc_s140) (zc_pos zc_s140 rfl) ?_
  have t2 := zc_g140_9 hσ7 zc_s140
  have t3 : σ7 140 9 = σ 140 9 := by rw [eσ7]; exact zq_up_ne (by omega)
  refine zr_aload_n (pc := 15) hV dX6_countStep_15 rfl rfl ?_
  refine zr_getI (pc := 16) hV 11 dX6_countStep_16 fX6_130 rfl rfl (zc_k4 korder) (zc_pos korder rfl) ?_
  have t4 := zc_g4_11 hσ7 korder
  have t5 : σ7 order 11 = σ order 11 := by rw [eσ7]; exact zq_up_ne (zc_dk korder zc_s140 rfl)
  refine zr_iadd (pc := 19) hV dX6_countStep_19 ?_
  refine zr_any (pc := 20) hV (fun y20 hy20 jy20 => ?_)
  have wy20 : y20 = zs_w ((σ7 140 9) + (σ7 order 11)) := zs_w_any hy20 jy20
  clear jy20
  refine zr_putI (pc := 20) hV 9 dX6_countStep_20 fX6_53 rfl rfl rfl (zc_k140 zc_s140) (zc_pos zc_s140 rfl) (fun σ20 eσ20 => ?_)
  have hσ20 : zc_T σ20 := zc_u140_9 eσ20 hσ7 zc_s140 (by omega)
  have hFσ20 := zc_Fw eσ20 zc_s140 rfl hFσ7
  refine zr_aload_n (pc := 23) hV dX6_countStep_23 rfl rfl ?_
  refine zr_getI (pc := 24) hV 13 dX6_countStep_24 fX6_71 rfl rfl (zc_k140 zc_s140) (zc_pos zc_s140 rfl) ?_
  have t6 := zc_g140_13 hσ20 zc_s140
  have t7 : σ20 140 13 = σ7 140 13 := by rw [eσ20]; exact zq_up_ne (by omega)
  have t8 : σ7 140 13 = σ 140 13 := by rw [eσ7]; exact zq_up_ne (by omega)
  refine zr_iconst (pc := 27) hV 1 dX6_countStep_27 rfl ?_
  refine zr_icmp_le (pc := 28) hV 80 dX6_countStep_28 (by decide) (by omega) ⟨by decide, by decide⟩ (fun c9 => ?_) (fun c9 => ?_)
  · show V 80 [some (ZR 140), some (ZR order), some (ZI place)] [] 284 σ20
    refine zr_aload_n (pc := 80) hV dX6_countStep_80 rfl rfl ?_
    refine zr_aload_n (pc := 81) hV dX6_countStep_81 rfl rfl ?_
    refine zr_getI (pc := 82) hV 11 dX6_countStep_82 fX6_130 rfl rfl (zc_k4 korder) (zc_pos korder rfl) ?_
    have t10 := zc_g4_11 hσ20 korder
    have t11 : σ20 order 11 = σ7 order 11 := by rw [eσ20]; exact zq_up_ne (zc_dk korder zc_s140 rfl)
    have t12 : σ7 order 11 = σ order 11 := by rw [eσ7]; exact zq_up_ne (zc_dk korder zc_s140 rfl)
    refine zr_putI (pc := 85) hV 13 dX6_countStep_85 fX6_71 rfl rfl rfl (zc_k140 zc_s140) (zc_pos zc_s140 rfl) (fun σ85 eσ85 => ?_)
    have hσ85 : zc_T σ85 := zc_u140_13 eσ85 hσ20 zc_s140 (by omega)
    have hFσ85 := zc_Fw eσ85 zc_s140 rfl hFσ20
    refine zr_aload_n (pc := 88) hV dX6_countStep_88 rfl rfl ?_
    refine zr_aload_n (pc := 89) hV dX6_countStep_89 rfl rfl ?_
    refine zr_getR (pc := 90) hV 2 141 dX6_countStep_90 fX6_16 rfl rfl (zc_k140 zc_s140) (zc_pos zc_s140 rfl) (zc_g140_2 hσ85 zc_s140) (by decide) ?_
    refine zr_aload_n (pc := 93) hV dX6_countStep_93 rfl rfl ?_
    refine zr_getI (pc := 94) hV 13 dX6_countStep_94 fX6_138 rfl rfl (zc_k4 korder) (zc_pos korder rfl) ?_
    have t13 := zc_g4_13 hσ85 korder
    have t14 : σ85 order 13 = σ20 order 13 := by rw [eσ85]; exact zq_up_ne (zc_dk korder zc_s140 rfl)
    have t15 : σ20 order 13 = σ7 order 13 := by rw [eσ20]; exact zq_up_ne (zc_dk korder zc_s140 rfl)
    have t16 : σ7 order 13 = σ order 13 := by rw [eσ7]; exact zq_up_ne (zc_dk korder zc_s140 rfl)
    have t17 := zc_g4_13 hσ85 korder
    have t18 : σ85 order 13 = σ20 order 13 := by rw [eσ85]; exact zq_up_ne (zc_dk korder zc_s140 rfl)
    have t19 : σ20 order 13 = σ7 order 13 := by rw [eσ20]; exact zq_up_ne (zc_dk korder zc_s140 rfl)
    have t20 : σ7 order 13 = σ order 13 := by rw [eσ7]; exact zq_up_ne (zc_dk korder zc_s140 rfl)
    refine zr_callVp (pc := 97) hV [ZI (σ85 order 13)] (st := [ZR 140]) (c_X10_storesOf_2 (σ := σ85) hσ85 (σ85 order 13) (by omega) (fun f f0 f2 => by rw [hFσ85 144 f (zc_out_ar zc_s144 rfl)]; exact q1 f f0 f2)) dX6_countStep_97 mX6_134 (zc_k141 zc_s141) (zc_pos zc_s141 rfl) (by decide) (Nat.le_of_ble_eq_true rfl) (Nat.le_refl _) (fun r97 hr97 pr97 => ?_)
    have t21 := zc_g4_13 hσ85 korder
    have t22 : σ85 order 13 = σ20 order 13 := by rw [eσ85]; exact zq_up_ne (zc_dk korder zc_s140 rfl)
    have t23 : σ20 order 13 = σ7 order 13 := by rw [eσ20]; exact zq_up_ne (zc_dk korder zc_s140 rfl)
    have t24 : σ7 order 13 = σ order 13 := by rw [eσ7]; exact zq_up_ne (zc_dk korder zc_s140 rfl)
    refine zr_putI (pc := 100) hV 14 dX6_countStep_100 fX6_74 rfl rfl rfl (zc_k140 zc_s140) (zc_pos zc_s140 rfl) (fun σ100 eσ100 => ?_)
    have hσ100 : zc_T σ100 := zc_u140_14 eσ100 hσ85 zc_s140 (by omega)
    have hFσ100 := zc_Fw eσ100 zc_s140 rfl hFσ85
    have hFσ100g : ∀ i, σ100 254 i = σ 254 i := fun i => by rw [eσ100, zq_up_ne (by omega), eσ85, zq_up_ne (by omega), eσ20, zq_up_ne (by omega), eσ7, zq_up_ne (by omega)]
    refine zr_aload_n (pc := 103) hV dX6_countStep_103 rfl rfl ?_
    refine zr_getR (pc := 104) hV 7 254 dX6_countStep_104 fX6_28 rfl rfl (zc_k140 zc_s140) (zc_pos zc_s140 rfl) (zc_g140_7 hσ100 zc_s140) (by decide) ?_
    refine zr_iload_n (pc := 107) hV dX6_countStep_107 rfl rfl ?_
    refine zr_iald (pc := 108) hV dX6_countStep_108 (zc_k254 zc_s254) (zc_pos zc_s254 rfl) rfl (by omega) ?_
    have t25 := zc_ga254 hσ100 zc_s254 place
    have t26 : σ100 254 place = σ85 254 place := by rw [eσ100]; exact zq_up_ne (zc_dk zc_s254 zc_s140 rfl)
    have t27 : σ85 254 place = σ20 254 place := by rw [eσ85]; exact zq_up_ne (zc_dk zc_s254 zc_s140 rfl)
    have t28 : σ20 254 place = σ7 254 place := by rw [eσ20]; exact zq_up_ne (zc_dk zc_s254 zc_s140 rfl)
    have t29 : σ7 254 place = σ 254 place := by rw [eσ7]; exact zq_up_ne (zc_dk zc_s254 zc_s140 rfl)
    refine zr_aload_n (pc := 109) hV dX6_countStep_109 rfl rfl ?_
    refine zr_getR (pc := 110) hV 2 141 dX6_countStep_110 fX6_16 rfl rfl (zc_k140 zc_s140) (zc_pos zc_s140 rfl) (zc_g140_2 hσ100 zc_s140) (by decide) ?_
    refine zr_getI (pc := 113) hV 4 dX6_countStep_113 fX6_85 rfl rfl (zc_k141 zc_s141) (zc_pos zc_s141 rfl) ?_
    have t30 := zc_g141_4 hσ100 zc_s141
    have t31 : σ100 141 4 = σ85 141 4 := by rw [eσ100]; exact zq_up_ne (zc_dk zc_s141 zc_s140 rfl)
    have t32 : σ85 141 4 = σ20 141 4 := by rw [eσ85]; exact zq_up_ne (zc_dk zc_s141 zc_s140 rfl)
    have t33 : σ20 141 4 = σ7 141 4 := by rw [eσ20]; exact zq_up_ne (zc_dk zc_s141 zc_s140 rfl)
    have t34 : σ7 141 4 = σ 141 4 := by rw [eσ7]; exact zq_up_ne (zc_dk zc_s141 zc_s140 rfl)
    refine zr_icmp_eq (pc := 116) hV 155 dX6_countStep_116 (by decide) (by omega) (by omega) (fun c35 => ?_) (fun c35 => ?_)
    · show V 155 [some (ZR 140), some (ZR order), some (ZI place)] [] 284 σ100
      have t36 := zc_g140_10 hσ100 zc_s140
      have t37 : σ100 140 10 = σ85 140 10 := by rw [eσ100]; exact zq_up_ne (by omega)
      have t38 : σ85 140 10 = σ20 140 10 := by rw [eσ85]; exact zq_up_ne (by omega)
      have t39 : σ20 140 10 = σ7 140 10 := by rw [eσ20]; exact zq_up_ne (by omega)
      have t40 : σ7 140 10 = σ 140 10 := by rw [eσ7]; exact zq_up_ne (by omega)
      have t41 := zc_g140_11 hσ100 zc_s140
      have t42 : σ100 140 11 = σ85 140 11 := by rw [eσ100]; exact zq_up_ne (by omega)
      have t43 : σ85 140 11 = σ20 140 11 := by rw [eσ85]; exact zq_up_ne (by omega)
      have t44 : σ20 140 11 = σ7 140 11 := by rw [eσ20]; exact zq_up_ne (by omega)
      have t45 : σ7 140 11 = σ 140 11 := by rw [eσ7]; exact zq_up_ne (by omega)
      have t46 := zc_g140_13 hσ100 zc_s140
      have t47 : σ100 140 13 = σ85 140 13 := by rw [eσ100]; exact zq_up_ne (by omega)
      have t48 : σ85 140 13 = σ20 order 11 := by rw [eσ85]; exact zq_up_same _ _ _ _
      have t49 := zc_g140_14 hσ100 zc_s140
      have t50 : σ100 140 14 = r97 := by rw [eσ100]; exact zq_up_same _ _ _ _
      have t51 := zc_g140_8 hσ100 zc_s140
      have t52 : σ100 140 8 = σ85 140 8 := by rw [eσ100]; exact zq_up_ne (by omega)
      have t53 : σ85 140 8 = σ20 140 8 := by rw [eσ85]; exact zq_up_ne (by omega)
      have t54 : σ20 140 8 = σ7 140 8 := by rw [eσ20]; exact zq_up_ne (by omega)
      have t55 : σ7 140 8 = y7 := by rw [eσ7]; exact zq_up_same _ _ _ _
      have t56 := zc_g140_9 hσ100 zc_s140
      have t57 : σ100 140 9 = σ85 140 9 := by rw [eσ100]; exact zq_up_ne (by omega)
      have t58 : σ85 140 9 = σ20 140 9 := by rw [eσ85]; exact zq_up_ne (by omega)
      have t59 : σ20 140 9 = y20 := by rw [eσ20]; exact zq_up_same _ _ _ _
      exact zr_vret (pc := 155) hV dX6_countStep_155 rfl rfl ⟨rfl, hσ100, hFσ100, trivial, (show zs_ct σ σ100 (σ 144) order place (σ 141 4) from ⟨⟨0, Or.inr ⟨(by first | exact fun h => absurd h.1 (by omega) | exact (fun h => by have x43 : ∀ i : Nat, zw_tb r43 i ↔ zw_ls (σ 144) (σ order 12) i := (fun i => by have z := pr43.2 i; rw [(funext (fun i => hFσ20 144 i (zc_out_ar zc_s144 rfl)) : σ20 144 = σ 144), show σ20 order 12 = σ order 12 by omega] at z; exact z); obtain ⟨-, i, i1, i2, i3⟩ := h; exact absurd ((zw_tb_and (x := σ 140 14) (y := r43) (by omega) (by omega)).mpr ⟨i, i1, i2, (x43 i).mpr i3⟩) (by rw [show σ 140 14 = σ20 140 14 by omega]; omega))), rfl⟩, (by rw [if_pos (by omega)]; unfold zs_w at wy20 ⊢; omega), (by rw [Int.add_zero, zs_w_id (zc_g140_10 hσ zc_s140)]; omega)⟩, (by unfold zs_w at wy7 ⊢; omega), (by rw [if_pos (by omega), Int.add_zero, zs_w_id (zc_g140_11 hσ zc_s140)]; omega), by omega, ⟨by omega, by omega, fun i => by have z := pr97.2 i; rw [(funext (fun i => hFσ85 144 i (zc_out_ar zc_s144 rfl)) : σ85 144 = σ 144), show σ85 order 13 = σ order 13 by omega] at z; rw [show σ100 140 14 = r97 by omega]; exact z⟩, (fun i => by by_cases hc : i = place; (rw [if_pos hc, hc, hFσ100g place]; omega); (rw [if_neg hc]; exact hFσ100g i))⟩)⟩
    · show V 119 [some (ZR 140), some (ZR order), some (ZI place)] [] 284 σ100
      refine zr_aload_n (pc := 119) hV dX6_countStep_119 rfl rfl ?_
      refine zr_getR (pc := 120) hV 7 254 dX6_countStep_120 fX6_28 rfl rfl (zc_k140 zc_s140) (zc_pos zc_s140 rfl) (zc_g140_7 hσ100 zc_s140) (by decide) ?_
      refine zr_iload_n (pc := 123) hV dX6_countStep_123 rfl rfl ?_
      refine zr_aload_n (pc := 124) hV dX6_countStep_124 rfl rfl ?_
      refine zr_getR (pc := 125) hV 2 141 dX6_countStep_125 fX6_16 rfl rfl (zc_k140 zc_s140) (zc_pos zc_s140 rfl) (zc_g140_2 hσ100 zc_s140) (by decide) ?_
      refine zr_getI (pc := 128) hV 4 dX6_countStep_128 fX6_85 rfl rfl (zc_k141 zc_s141) (zc_pos zc_s141 rfl) ?_
      have t60 := zc_g141_4 hσ100 zc_s141
      have t61 : σ100 141 4 = σ85 141 4 := by rw [eσ100]; exact zq_up_ne (zc_dk zc_s141 zc_s140 rfl)
      have t62 : σ85 141 4 = σ20 141 4 := by rw [eσ85]; exact zq_up_ne (zc_dk zc_s141 zc_s140 rfl)
      have t63 : σ20 141 4 = σ7 141 4 := by rw [eσ20]; exact zq_up_ne (zc_dk zc_s141 zc_s140 rfl)
      have t64 : σ7 141 4 = σ 141 4 := by rw [eσ7]; exact zq_up_ne (zc_dk zc_s141 zc_s140 rfl)
      refine zr_iast (pc := 131) hV dX6_countStep_131 (zc_k254 zc_s254) (zc_pos zc_s254 rfl) rfl (by omega) (fun σ131 eσ131 => ?_)
      have hσ131 : zc_T σ131 := zc_ua254 eσ131 hσ100 zc_s254 (by omega)
      have hFσ131 := zc_Fa eσ131 zc_s254 rfl hFσ100
      refine zr_aload_n (pc := 132) hV dX6_countStep_132 rfl rfl ?_
      refine zr_dup (pc := 133) hV dX6_countStep_133 (fun _ => rfl) ?_
      refine zr_getI (pc := 134) hV 11 dX6_countStep_134 fX6_59 rfl rfl (zc_k140 zc_s140) (zc_pos zc_s140 rfl) ?_
      have t65 := zc_g140_11 hσ131 zc_s140
      have t66 : σ131 140 11 = σ100 140 11 := by rw [eσ131]; exact zq_up_ne (zc_dk zc_s140 zc_s254 rfl)
      have t67 : σ100 140 11 = σ85 140 11 := by rw [eσ100]; exact zq_up_ne (by omega)
      have t68 : σ85 140 11 = σ20 140 11 := by rw [eσ85]; exact zq_up_ne (by omega)
      have t69 : σ20 140 11 = σ7 140 11 := by rw [eσ20]; exact zq_up_ne (by omega)
      have t70 : σ7 140 11 = σ 140 11 := by rw [eσ7]; exact zq_up_ne (by omega)
      refine zr_iconst (pc := 137) hV 1 dX6_countStep_137 rfl ?_
      refine zr_iadd (pc := 138) hV dX6_countStep_138 ?_
      refine zr_any (pc := 139) hV (fun y139 hy139 jy139 => ?_)
      have wy139 : y139 = zs_w ((σ131 140 11) + 1) := zs_w_any hy139 jy139
      clear jy139
      refine zr_putI (pc := 139) hV 11 dX6_countStep_139 fX6_59 rfl rfl rfl (zc_k140 zc_s140) (zc_pos zc_s140 rfl) (fun σ139 eσ139 => ?_)
      have hσ139 : zc_T σ139 := zc_u140_11 eσ139 hσ131 zc_s140 (by omega)
      have hFσ139 := zc_Fw eσ139 zc_s140 rfl hFσ131
      refine zr_aload_n (pc := 142) hV dX6_countStep_142 rfl rfl ?_
      refine zr_dup (pc := 143) hV dX6_countStep_143 (fun _ => rfl) ?_
      refine zr_getI (pc := 144) hV 9 dX6_countStep_144 fX6_53 rfl rfl (zc_k140 zc_s140) (zc_pos zc_s140 rfl) ?_
      have t71 := zc_g140_9 hσ139 zc_s140
      have t72 : σ139 140 9 = σ131 140 9 := by rw [eσ139]; exact zq_up_ne (by omega)
      have t73 : σ131 140 9 = σ100 140 9 := by rw [eσ131]; exact zq_up_ne (zc_dk zc_s140 zc_s254 rfl)
      have t74 : σ100 140 9 = σ85 140 9 := by rw [eσ100]; exact zq_up_ne (by omega)
      have t75 : σ85 140 9 = σ20 140 9 := by rw [eσ85]; exact zq_up_ne (by omega)
      have t76 : σ20 140 9 = y20 := by rw [eσ20]; exact zq_up_same _ _ _ _
      refine zr_aload_n (pc := 147) hV dX6_countStep_147 rfl rfl ?_
      refine zr_getI (pc := 148) hV 12 dX6_countStep_148 fX6_43 rfl rfl (zc_k140 zc_s140) (zc_pos zc_s140 rfl) ?_
      have t77 := zc_g140_12 hσ139 zc_s140
      have t78 : σ139 140 12 = σ131 140 12 := by rw [eσ139]; exact zq_up_ne (by omega)
      have t79 : σ131 140 12 = σ100 140 12 := by rw [eσ131]; exact zq_up_ne (zc_dk zc_s140 zc_s254 rfl)
      have t80 : σ100 140 12 = σ85 140 12 := by rw [eσ100]; exact zq_up_ne (by omega)
      have t81 : σ85 140 12 = σ20 140 12 := by rw [eσ85]; exact zq_up_ne (by omega)
      have t82 : σ20 140 12 = σ7 140 12 := by rw [eσ20]; exact zq_up_ne (by omega)
      have t83 : σ7 140 12 = σ 140 12 := by rw [eσ7]; exact zq_up_ne (by omega)
      refine zr_iadd (pc := 151) hV dX6_countStep_151 ?_
      refine zr_any (pc := 152) hV (fun y152 hy152 jy152 => ?_)
      have wy152 : y152 = zs_w ((σ139 140 9) + (σ139 140 12)) := zs_w_any hy152 jy152
      clear jy152
      refine zr_putI (pc := 152) hV 9 dX6_countStep_152 fX6_53 rfl rfl rfl (zc_k140 zc_s140) (zc_pos zc_s140 rfl) (fun σ152 eσ152 => ?_)
      have hσ152 : zc_T σ152 := zc_u140_9 eσ152 hσ139 zc_s140 (by omega)
      have hFσ152 := zc_Fw eσ152 zc_s140 rfl hFσ139
      show V 155 [some (ZR 140), some (ZR order), some (ZI place)] [] 284 σ152
      have t84 := zc_g140_10 hσ152 zc_s140
      have t85 : σ152 140 10 = σ139 140 10 := by rw [eσ152]; exact zq_up_ne (by omega)
      have t86 : σ139 140 10 = σ131 140 10 := by rw [eσ139]; exact zq_up_ne (by omega)
      have t87 : σ131 140 10 = σ100 140 10 := by rw [eσ131]; exact zq_up_ne (zc_dk zc_s140 zc_s254 rfl)
      have t88 : σ100 140 10 = σ85 140 10 := by rw [eσ100]; exact zq_up_ne (by omega)
      have t89 : σ85 140 10 = σ20 140 10 := by rw [eσ85]; exact zq_up_ne (by omega)
      have t90 : σ20 140 10 = σ7 140 10 := by rw [eσ20]; exact zq_up_ne (by omega)
      have t91 : σ7 140 10 = σ 140 10 := by rw [eσ7]; exact zq_up_ne (by omega)
      have t92 := zc_g140_11 hσ152 zc_s140
      have t93 : σ152 140 11 = σ139 140 11 := by rw [eσ152]; exact zq_up_ne (by omega)
      have t94 : σ139 140 11 = y139 := by rw [eσ139]; exact zq_up_same _ _ _ _
      have t95 := zc_g140_13 hσ152 zc_s140
      have t96 : σ152 140 13 = σ139 140 13 := by rw [eσ152]; exact zq_up_ne (by omega)
      have t97 : σ139 140 13 = σ131 140 13 := by rw [eσ139]; exact zq_up_ne (by omega)
      have t98 : σ131 140 13 = σ100 140 13 := by rw [eσ131]; exact zq_up_ne (zc_dk zc_s140 zc_s254 rfl)
      have t99 : σ100 140 13 = σ85 140 13 := by rw [eσ100]; exact zq_up_ne (by omega)
      have t100 : σ85 140 13 = σ20 order 11 := by rw [eσ85]; exact zq_up_same _ _ _ _
      have t101 := zc_g140_14 hσ152 zc_s140
      have t102 : σ152 140 14 = σ139 140 14 := by rw [eσ152]; exact zq_up_ne (by omega)
      have t103 : σ139 140 14 = σ131 140 14 := by rw [eσ139]; exact zq_up_ne (by omega)
      have t104 : σ131 140 14 = σ100 140 14 := by rw [eσ131]; exact zq_up_ne (zc_dk zc_s140 zc_s254 rfl)
      have t105 : σ100 140 14 = r97 := by rw [eσ100]; exact zq_up_same _ _ _ _
      have t106 := zc_g140_8 hσ152 zc_s140
      have t107 : σ152 140 8 = σ139 140 8 := by rw [eσ152]; exact zq_up_ne (by omega)
      have t108 : σ139 140 8 = σ131 140 8 := by rw [eσ139]; exact zq_up_ne (by omega)
      have t109 : σ131 140 8 = σ100 140 8 := by rw [eσ131]; exact zq_up_ne (zc_dk zc_s140 zc_s254 rfl)
      have t110 : σ100 140 8 = σ85 140 8 := by rw [eσ100]; exact zq_up_ne (by omega)
      have t111 : σ85 140 8 = σ20 140 8 := by rw [eσ85]; exact zq_up_ne (by omega)
      have t112 : σ20 140 8 = σ7 140 8 := by rw [eσ20]; exact zq_up_ne (by omega)
      have t113 : σ7 140 8 = y7 := by rw [eσ7]; exact zq_up_same _ _ _ _
      have t114 := zc_g140_9 hσ152 zc_s140
      have t115 : σ152 140 9 = y152 := by rw [eσ152]; exact zq_up_same _ _ _ _
      exact zr_vret (pc := 155) hV dX6_countStep_155 rfl rfl ⟨rfl, hσ152, hFσ152, trivial, (show zs_ct σ σ152 (σ 144) order place (σ 141 4) from ⟨⟨0, Or.inr ⟨(by first | exact fun h => absurd h.1 (by omega) | exact (fun h => by have x43 : ∀ i : Nat, zw_tb r43 i ↔ zw_ls (σ 144) (σ order 12) i := (fun i => by have z := pr43.2 i; rw [(funext (fun i => hFσ20 144 i (zc_out_ar zc_s144 rfl)) : σ20 144 = σ 144), show σ20 order 12 = σ order 12 by omega] at z; exact z); obtain ⟨-, i, i1, i2, i3⟩ := h; exact absurd ((zw_tb_and (x := σ 140 14) (y := r43) (by omega) (by omega)).mpr ⟨i, i1, i2, (x43 i).mpr i3⟩) (by rw [show σ 140 14 = σ20 140 14 by omega]; omega))), rfl⟩, (by rw [if_neg (by omega)]; unfold zs_w at wy20 wy152 ⊢; omega), (by rw [Int.add_zero, zs_w_id (zc_g140_10 hσ zc_s140)]; omega)⟩, (by unfold zs_w at wy7 ⊢; omega), (by rw [if_neg (by omega)]; unfold zs_w at wy139 ⊢; omega), by omega, ⟨by omega, by omega, fun i => by have z := pr97.2 i; rw [(funext (fun i => hFσ85 144 i (zc_out_ar zc_s144 rfl)) : σ85 144 = σ 144), show σ85 order 13 = σ order 13 by omega] at z; rw [show σ152 140 14 = r97 by omega]; exact z⟩, (fun i => by rw [eσ152, zq_up_ne (by omega), eσ139, zq_up_ne (by omega), eσ131]; by_cases hc : i = place; (rw [if_pos hc, hc, zq_up_same]; omega); (rw [if_neg hc, zq_up_ne (by omega)]; exact hFσ100g i))⟩)⟩
  · show V 31 [some (ZR 140), some (ZR order), some (ZI place)] [] 284 σ20
    refine zr_aload_n (pc := 31) hV dX6_countStep_31 rfl rfl ?_
    refine zr_getI (pc := 32) hV 14 dX6_countStep_32 fX6_74 rfl rfl (zc_k140 zc_s140) (zc_pos zc_s140 rfl) ?_
    have t116 := zc_g140_14 hσ20 zc_s140
    have t117 : σ20 140 14 = σ7 140 14 := by rw [eσ20]; exact zq_up_ne (by omega)
    have t118 : σ7 140 14 = σ 140 14 := by rw [eσ7]; exact zq_up_ne (by omega)
    refine zr_aload_n (pc := 35) hV dX6_countStep_35 rfl rfl ?_
    refine zr_getR (pc := 36) hV 2 141 dX6_countStep_36 fX6_16 rfl rfl (zc_k140 zc_s140) (zc_pos zc_s140 rfl) (zc_g140_2 hσ20 zc_s140) (by decide) ?_
    refine zr_aload_n (pc := 39) hV dX6_countStep_39 rfl rfl ?_
    refine zr_getI (pc := 40) hV 12 dX6_countStep_40 fX6_131 rfl rfl (zc_k4 korder) (zc_pos korder rfl) ?_
    have t119 := zc_g4_12 hσ20 korder
    have t120 : σ20 order 12 = σ7 order 12 := by rw [eσ20]; exact zq_up_ne (zc_dk korder zc_s140 rfl)
    have t121 : σ7 order 12 = σ order 12 := by rw [eσ7]; exact zq_up_ne (zc_dk korder zc_s140 rfl)
    have t122 := zc_g4_12 hσ20 korder
    have t123 : σ20 order 12 = σ7 order 12 := by rw [eσ20]; exact zq_up_ne (zc_dk korder zc_s140 rfl)
    have t124 : σ7 order 12 = σ order 12 := by rw [eσ7]; exact zq_up_ne (zc_dk korder zc_s140 rfl)
    refine zr_callVp (pc := 43) hV [ZI (σ20 order 12)] (st := [ZI (σ20 140 14)]) (c_X10_storesOf_2 (σ := σ20) hσ20 (σ20 order 12) (by omega) (fun f f0 f2 => by rw [hFσ20 144 f (zc_out_ar zc_s144 rfl)]; exact q1 f f0 f2)) dX6_countStep_43 mX6_134 (zc_k141 zc_s141) (zc_pos zc_s141 rfl) (by decide) (Nat.le_of_ble_eq_true rfl) (Nat.le_refl _) (fun r43 hr43 pr43 => ?_)
    have t125 := zc_g4_12 hσ20 korder
    have t126 : σ20 order 12 = σ7 order 12 := by rw [eσ20]; exact zq_up_ne (zc_dk korder zc_s140 rfl)
    have t127 : σ7 order 12 = σ order 12 := by rw [eσ7]; exact zq_up_ne (zc_dk korder zc_s140 rfl)
    refine zr_iand (pc := 46) hV dX6_countStep_46 ?_
    have t128 := zq_and_nnR (x := σ20 140 14) (y := r43) (by omega)
    refine zr_if_eq (pc := 47) hV 80 dX6_countStep_47 (by decide) (by omega) (fun c129 => ?_) (fun c129 => ?_)
    · show V 80 [some (ZR 140), some (ZR order), some (ZI place)] [] 284 σ20
      refine zr_aload_n (pc := 80) hV dX6_countStep_80 rfl rfl ?_
      refine zr_aload_n (pc := 81) hV dX6_countStep_81 rfl rfl ?_
      refine zr_getI (pc := 82) hV 11 dX6_countStep_82 fX6_130 rfl rfl (zc_k4 korder) (zc_pos korder rfl) ?_
      have t130 := zc_g4_11 hσ20 korder
      have t131 : σ20 order 11 = σ7 order 11 := by rw [eσ20]; exact zq_up_ne (zc_dk korder zc_s140 rfl)
      have t132 : σ7 order 11 = σ order 11 := by rw [eσ7]; exact zq_up_ne (zc_dk korder zc_s140 rfl)
      refine zr_putI (pc := 85) hV 13 dX6_countStep_85 fX6_71 rfl rfl rfl (zc_k140 zc_s140) (zc_pos zc_s140 rfl) (fun σ85 eσ85 => ?_)
      have hσ85 : zc_T σ85 := zc_u140_13 eσ85 hσ20 zc_s140 (by omega)
      have hFσ85 := zc_Fw eσ85 zc_s140 rfl hFσ20
      refine zr_aload_n (pc := 88) hV dX6_countStep_88 rfl rfl ?_
      refine zr_aload_n (pc := 89) hV dX6_countStep_89 rfl rfl ?_
      refine zr_getR (pc := 90) hV 2 141 dX6_countStep_90 fX6_16 rfl rfl (zc_k140 zc_s140) (zc_pos zc_s140 rfl) (zc_g140_2 hσ85 zc_s140) (by decide) ?_
      refine zr_aload_n (pc := 93) hV dX6_countStep_93 rfl rfl ?_
      refine zr_getI (pc := 94) hV 13 dX6_countStep_94 fX6_138 rfl rfl (zc_k4 korder) (zc_pos korder rfl) ?_
      have t133 := zc_g4_13 hσ85 korder
      have t134 : σ85 order 13 = σ20 order 13 := by rw [eσ85]; exact zq_up_ne (zc_dk korder zc_s140 rfl)
      have t135 : σ20 order 13 = σ7 order 13 := by rw [eσ20]; exact zq_up_ne (zc_dk korder zc_s140 rfl)
      have t136 : σ7 order 13 = σ order 13 := by rw [eσ7]; exact zq_up_ne (zc_dk korder zc_s140 rfl)
      have t137 := zc_g4_13 hσ85 korder
      have t138 : σ85 order 13 = σ20 order 13 := by rw [eσ85]; exact zq_up_ne (zc_dk korder zc_s140 rfl)
      have t139 : σ20 order 13 = σ7 order 13 := by rw [eσ20]; exact zq_up_ne (zc_dk korder zc_s140 rfl)
      have t140 : σ7 order 13 = σ order 13 := by rw [eσ7]; exact zq_up_ne (zc_dk korder zc_s140 rfl)
      refine zr_callVp (pc := 97) hV [ZI (σ85 order 13)] (st := [ZR 140]) (c_X10_storesOf_2 (σ := σ85) hσ85 (σ85 order 13) (by omega) (fun f f0 f2 => by rw [hFσ85 144 f (zc_out_ar zc_s144 rfl)]; exact q1 f f0 f2)) dX6_countStep_97 mX6_134 (zc_k141 zc_s141) (zc_pos zc_s141 rfl) (by decide) (Nat.le_of_ble_eq_true rfl) (Nat.le_refl _) (fun r97 hr97 pr97 => ?_)
      have t141 := zc_g4_13 hσ85 korder
      have t142 : σ85 order 13 = σ20 order 13 := by rw [eσ85]; exact zq_up_ne (zc_dk korder zc_s140 rfl)
      have t143 : σ20 order 13 = σ7 order 13 := by rw [eσ20]; exact zq_up_ne (zc_dk korder zc_s140 rfl)
      have t144 : σ7 order 13 = σ order 13 := by rw [eσ7]; exact zq_up_ne (zc_dk korder zc_s140 rfl)
      refine zr_putI (pc := 100) hV 14 dX6_countStep_100 fX6_74 rfl rfl rfl (zc_k140 zc_s140) (zc_pos zc_s140 rfl) (fun σ100 eσ100 => ?_)
      have hσ100 : zc_T σ100 := zc_u140_14 eσ100 hσ85 zc_s140 (by omega)
      have hFσ100 := zc_Fw eσ100 zc_s140 rfl hFσ85
      have hFσ100g : ∀ i, σ100 254 i = σ 254 i := fun i => by rw [eσ100, zq_up_ne (by omega), eσ85, zq_up_ne (by omega), eσ20, zq_up_ne (by omega), eσ7, zq_up_ne (by omega)]
      refine zr_aload_n (pc := 103) hV dX6_countStep_103 rfl rfl ?_
      refine zr_getR (pc := 104) hV 7 254 dX6_countStep_104 fX6_28 rfl rfl (zc_k140 zc_s140) (zc_pos zc_s140 rfl) (zc_g140_7 hσ100 zc_s140) (by decide) ?_
      refine zr_iload_n (pc := 107) hV dX6_countStep_107 rfl rfl ?_
      refine zr_iald (pc := 108) hV dX6_countStep_108 (zc_k254 zc_s254) (zc_pos zc_s254 rfl) rfl (by omega) ?_
      have t145 := zc_ga254 hσ100 zc_s254 place
      have t146 : σ100 254 place = σ85 254 place := by rw [eσ100]; exact zq_up_ne (zc_dk zc_s254 zc_s140 rfl)
      have t147 : σ85 254 place = σ20 254 place := by rw [eσ85]; exact zq_up_ne (zc_dk zc_s254 zc_s140 rfl)
      have t148 : σ20 254 place = σ7 254 place := by rw [eσ20]; exact zq_up_ne (zc_dk zc_s254 zc_s140 rfl)
      have t149 : σ7 254 place = σ 254 place := by rw [eσ7]; exact zq_up_ne (zc_dk zc_s254 zc_s140 rfl)
      refine zr_aload_n (pc := 109) hV dX6_countStep_109 rfl rfl ?_
      refine zr_getR (pc := 110) hV 2 141 dX6_countStep_110 fX6_16 rfl rfl (zc_k140 zc_s140) (zc_pos zc_s140 rfl) (zc_g140_2 hσ100 zc_s140) (by decide) ?_
      refine zr_getI (pc := 113) hV 4 dX6_countStep_113 fX6_85 rfl rfl (zc_k141 zc_s141) (zc_pos zc_s141 rfl) ?_
      have t150 := zc_g141_4 hσ100 zc_s141
      have t151 : σ100 141 4 = σ85 141 4 := by rw [eσ100]; exact zq_up_ne (zc_dk zc_s141 zc_s140 rfl)
      have t152 : σ85 141 4 = σ20 141 4 := by rw [eσ85]; exact zq_up_ne (zc_dk zc_s141 zc_s140 rfl)
      have t153 : σ20 141 4 = σ7 141 4 := by rw [eσ20]; exact zq_up_ne (zc_dk zc_s141 zc_s140 rfl)
      have t154 : σ7 141 4 = σ 141 4 := by rw [eσ7]; exact zq_up_ne (zc_dk zc_s141 zc_s140 rfl)
      refine zr_icmp_eq (pc := 116) hV 155 dX6_countStep_116 (by decide) (by omega) (by omega) (fun c155 => ?_) (fun c155 => ?_)
      · show V 155 [some (ZR 140), some (ZR order), some (ZI place)] [] 284 σ100
        have t156 := zc_g140_10 hσ100 zc_s140
        have t157 : σ100 140 10 = σ85 140 10 := by rw [eσ100]; exact zq_up_ne (by omega)
        have t158 : σ85 140 10 = σ20 140 10 := by rw [eσ85]; exact zq_up_ne (by omega)
        have t159 : σ20 140 10 = σ7 140 10 := by rw [eσ20]; exact zq_up_ne (by omega)
        have t160 : σ7 140 10 = σ 140 10 := by rw [eσ7]; exact zq_up_ne (by omega)
        have t161 := zc_g140_11 hσ100 zc_s140
        have t162 : σ100 140 11 = σ85 140 11 := by rw [eσ100]; exact zq_up_ne (by omega)
        have t163 : σ85 140 11 = σ20 140 11 := by rw [eσ85]; exact zq_up_ne (by omega)
        have t164 : σ20 140 11 = σ7 140 11 := by rw [eσ20]; exact zq_up_ne (by omega)
        have t165 : σ7 140 11 = σ 140 11 := by rw [eσ7]; exact zq_up_ne (by omega)
        have t166 := zc_g140_13 hσ100 zc_s140
        have t167 : σ100 140 13 = σ85 140 13 := by rw [eσ100]; exact zq_up_ne (by omega)
        have t168 : σ85 140 13 = σ20 order 11 := by rw [eσ85]; exact zq_up_same _ _ _ _
        have t169 := zc_g140_14 hσ100 zc_s140
        have t170 : σ100 140 14 = r97 := by rw [eσ100]; exact zq_up_same _ _ _ _
        have t171 := zc_g140_8 hσ100 zc_s140
        have t172 : σ100 140 8 = σ85 140 8 := by rw [eσ100]; exact zq_up_ne (by omega)
        have t173 : σ85 140 8 = σ20 140 8 := by rw [eσ85]; exact zq_up_ne (by omega)
        have t174 : σ20 140 8 = σ7 140 8 := by rw [eσ20]; exact zq_up_ne (by omega)
        have t175 : σ7 140 8 = y7 := by rw [eσ7]; exact zq_up_same _ _ _ _
        have t176 := zc_g140_9 hσ100 zc_s140
        have t177 : σ100 140 9 = σ85 140 9 := by rw [eσ100]; exact zq_up_ne (by omega)
        have t178 : σ85 140 9 = σ20 140 9 := by rw [eσ85]; exact zq_up_ne (by omega)
        have t179 : σ20 140 9 = y20 := by rw [eσ20]; exact zq_up_same _ _ _ _
        exact zr_vret (pc := 155) hV dX6_countStep_155 rfl rfl ⟨rfl, hσ100, hFσ100, trivial, (show zs_ct σ σ100 (σ 144) order place (σ 141 4) from ⟨⟨0, Or.inr ⟨(by first | exact fun h => absurd h.1 (by omega) | exact (fun h => by have x43 : ∀ i : Nat, zw_tb r43 i ↔ zw_ls (σ 144) (σ order 12) i := (fun i => by have z := pr43.2 i; rw [(funext (fun i => hFσ20 144 i (zc_out_ar zc_s144 rfl)) : σ20 144 = σ 144), show σ20 order 12 = σ order 12 by omega] at z; exact z); obtain ⟨-, i, i1, i2, i3⟩ := h; exact absurd ((zw_tb_and (x := σ 140 14) (y := r43) (by omega) (by omega)).mpr ⟨i, i1, i2, (x43 i).mpr i3⟩) (by rw [show σ 140 14 = σ20 140 14 by omega]; omega))), rfl⟩, (by rw [if_pos (by omega)]; unfold zs_w at wy20 ⊢; omega), (by rw [Int.add_zero, zs_w_id (zc_g140_10 hσ zc_s140)]; omega)⟩, (by unfold zs_w at wy7 ⊢; omega), (by rw [if_pos (by omega), Int.add_zero, zs_w_id (zc_g140_11 hσ zc_s140)]; omega), by omega, ⟨by omega, by omega, fun i => by have z := pr97.2 i; rw [(funext (fun i => hFσ85 144 i (zc_out_ar zc_s144 rfl)) : σ85 144 = σ 144), show σ85 order 13 = σ order 13 by omega] at z; rw [show σ100 140 14 = r97 by omega]; exact z⟩, (fun i => by by_cases hc : i = place; (rw [if_pos hc, hc, hFσ100g place]; omega); (rw [if_neg hc]; exact hFσ100g i))⟩)⟩
      · show V 119 [some (ZR 140), some (ZR order), some (ZI place)] [] 284 σ100
        refine zr_aload_n (pc := 119) hV dX6_countStep_119 rfl rfl ?_
        refine zr_getR (pc := 120) hV 7 254 dX6_countStep_120 fX6_28 rfl rfl (zc_k140 zc_s140) (zc_pos zc_s140 rfl) (zc_g140_7 hσ100 zc_s140) (by decide) ?_
        refine zr_iload_n (pc := 123) hV dX6_countStep_123 rfl rfl ?_
        refine zr_aload_n (pc := 124) hV dX6_countStep_124 rfl rfl ?_
        refine zr_getR (pc := 125) hV 2 141 dX6_countStep_125 fX6_16 rfl rfl (zc_k140 zc_s140) (zc_pos zc_s140 rfl) (zc_g140_2 hσ100 zc_s140) (by decide) ?_
        refine zr_getI (pc := 128) hV 4 dX6_countStep_128 fX6_85 rfl rfl (zc_k141 zc_s141) (zc_pos zc_s141 rfl) ?_
        have t180 := zc_g141_4 hσ100 zc_s141
        have t181 : σ100 141 4 = σ85 141 4 := by rw [eσ100]; exact zq_up_ne (zc_dk zc_s141 zc_s140 rfl)
        have t182 : σ85 141 4 = σ20 141 4 := by rw [eσ85]; exact zq_up_ne (zc_dk zc_s141 zc_s140 rfl)
        have t183 : σ20 141 4 = σ7 141 4 := by rw [eσ20]; exact zq_up_ne (zc_dk zc_s141 zc_s140 rfl)
        have t184 : σ7 141 4 = σ 141 4 := by rw [eσ7]; exact zq_up_ne (zc_dk zc_s141 zc_s140 rfl)
        refine zr_iast (pc := 131) hV dX6_countStep_131 (zc_k254 zc_s254) (zc_pos zc_s254 rfl) rfl (by omega) (fun σ131 eσ131 => ?_)
        have hσ131 : zc_T σ131 := zc_ua254 eσ131 hσ100 zc_s254 (by omega)
        have hFσ131 := zc_Fa eσ131 zc_s254 rfl hFσ100
        refine zr_aload_n (pc := 132) hV dX6_countStep_132 rfl rfl ?_
        refine zr_dup (pc := 133) hV dX6_countStep_133 (fun _ => rfl) ?_
        refine zr_getI (pc := 134) hV 11 dX6_countStep_134 fX6_59 rfl rfl (zc_k140 zc_s140) (zc_pos zc_s140 rfl) ?_
        have t185 := zc_g140_11 hσ131 zc_s140
        have t186 : σ131 140 11 = σ100 140 11 := by rw [eσ131]; exact zq_up_ne (zc_dk zc_s140 zc_s254 rfl)
        have t187 : σ100 140 11 = σ85 140 11 := by rw [eσ100]; exact zq_up_ne (by omega)
        have t188 : σ85 140 11 = σ20 140 11 := by rw [eσ85]; exact zq_up_ne (by omega)
        have t189 : σ20 140 11 = σ7 140 11 := by rw [eσ20]; exact zq_up_ne (by omega)
        have t190 : σ7 140 11 = σ 140 11 := by rw [eσ7]; exact zq_up_ne (by omega)
        refine zr_iconst (pc := 137) hV 1 dX6_countStep_137 rfl ?_
        refine zr_iadd (pc := 138) hV dX6_countStep_138 ?_
        refine zr_any (pc := 139) hV (fun y139 hy139 jy139 => ?_)
        have wy139 : y139 = zs_w ((σ131 140 11) + 1) := zs_w_any hy139 jy139
        clear jy139
        refine zr_putI (pc := 139) hV 11 dX6_countStep_139 fX6_59 rfl rfl rfl (zc_k140 zc_s140) (zc_pos zc_s140 rfl) (fun σ139 eσ139 => ?_)
        have hσ139 : zc_T σ139 := zc_u140_11 eσ139 hσ131 zc_s140 (by omega)
        have hFσ139 := zc_Fw eσ139 zc_s140 rfl hFσ131
        refine zr_aload_n (pc := 142) hV dX6_countStep_142 rfl rfl ?_
        refine zr_dup (pc := 143) hV dX6_countStep_143 (fun _ => rfl) ?_
        refine zr_getI (pc := 144) hV 9 dX6_countStep_144 fX6_53 rfl rfl (zc_k140 zc_s140) (zc_pos zc_s140 rfl) ?_
        have t191 := zc_g140_9 hσ139 zc_s140
        have t192 : σ139 140 9 = σ131 140 9 := by rw [eσ139]; exact zq_up_ne (by omega)
        have t193 : σ131 140 9 = σ100 140 9 := by rw [eσ131]; exact zq_up_ne (zc_dk zc_s140 zc_s254 rfl)
        have t194 : σ100 140 9 = σ85 140 9 := by rw [eσ100]; exact zq_up_ne (by omega)
        have t195 : σ85 140 9 = σ20 140 9 := by rw [eσ85]; exact zq_up_ne (by omega)
        have t196 : σ20 140 9 = y20 := by rw [eσ20]; exact zq_up_same _ _ _ _
        refine zr_aload_n (pc := 147) hV dX6_countStep_147 rfl rfl ?_
        refine zr_getI (pc := 148) hV 12 dX6_countStep_148 fX6_43 rfl rfl (zc_k140 zc_s140) (zc_pos zc_s140 rfl) ?_
        have t197 := zc_g140_12 hσ139 zc_s140
        have t198 : σ139 140 12 = σ131 140 12 := by rw [eσ139]; exact zq_up_ne (by omega)
        have t199 : σ131 140 12 = σ100 140 12 := by rw [eσ131]; exact zq_up_ne (zc_dk zc_s140 zc_s254 rfl)
        have t200 : σ100 140 12 = σ85 140 12 := by rw [eσ100]; exact zq_up_ne (by omega)
        have t201 : σ85 140 12 = σ20 140 12 := by rw [eσ85]; exact zq_up_ne (by omega)
        have t202 : σ20 140 12 = σ7 140 12 := by rw [eσ20]; exact zq_up_ne (by omega)
        have t203 : σ7 140 12 = σ 140 12 := by rw [eσ7]; exact zq_up_ne (by omega)
        refine zr_iadd (pc := 151) hV dX6_countStep_151 ?_
        refine zr_any (pc := 152) hV (fun y152 hy152 jy152 => ?_)
        have wy152 : y152 = zs_w ((σ139 140 9) + (σ139 140 12)) := zs_w_any hy152 jy152
        clear jy152
        refine zr_putI (pc := 152) hV 9 dX6_countStep_152 fX6_53 rfl rfl rfl (zc_k140 zc_s140) (zc_pos zc_s140 rfl) (fun σ152 eσ152 => ?_)
        have hσ152 : zc_T σ152 := zc_u140_9 eσ152 hσ139 zc_s140 (by omega)
        have hFσ152 := zc_Fw eσ152 zc_s140 rfl hFσ139
        show V 155 [some (ZR 140), some (ZR order), some (ZI place)] [] 284 σ152
        have t204 := zc_g140_10 hσ152 zc_s140
        have t205 : σ152 140 10 = σ139 140 10 := by rw [eσ152]; exact zq_up_ne (by omega)
        have t206 : σ139 140 10 = σ131 140 10 := by rw [eσ139]; exact zq_up_ne (by omega)
        have t207 : σ131 140 10 = σ100 140 10 := by rw [eσ131]; exact zq_up_ne (zc_dk zc_s140 zc_s254 rfl)
        have t208 : σ100 140 10 = σ85 140 10 := by rw [eσ100]; exact zq_up_ne (by omega)
        have t209 : σ85 140 10 = σ20 140 10 := by rw [eσ85]; exact zq_up_ne (by omega)
        have t210 : σ20 140 10 = σ7 140 10 := by rw [eσ20]; exact zq_up_ne (by omega)
        have t211 : σ7 140 10 = σ 140 10 := by rw [eσ7]; exact zq_up_ne (by omega)
        have t212 := zc_g140_11 hσ152 zc_s140
        have t213 : σ152 140 11 = σ139 140 11 := by rw [eσ152]; exact zq_up_ne (by omega)
        have t214 : σ139 140 11 = y139 := by rw [eσ139]; exact zq_up_same _ _ _ _
        have t215 := zc_g140_13 hσ152 zc_s140
        have t216 : σ152 140 13 = σ139 140 13 := by rw [eσ152]; exact zq_up_ne (by omega)
        have t217 : σ139 140 13 = σ131 140 13 := by rw [eσ139]; exact zq_up_ne (by omega)
        have t218 : σ131 140 13 = σ100 140 13 := by rw [eσ131]; exact zq_up_ne (zc_dk zc_s140 zc_s254 rfl)
        have t219 : σ100 140 13 = σ85 140 13 := by rw [eσ100]; exact zq_up_ne (by omega)
        have t220 : σ85 140 13 = σ20 order 11 := by rw [eσ85]; exact zq_up_same _ _ _ _
        have t221 := zc_g140_14 hσ152 zc_s140
        have t222 : σ152 140 14 = σ139 140 14 := by rw [eσ152]; exact zq_up_ne (by omega)
        have t223 : σ139 140 14 = σ131 140 14 := by rw [eσ139]; exact zq_up_ne (by omega)
        have t224 : σ131 140 14 = σ100 140 14 := by rw [eσ131]; exact zq_up_ne (zc_dk zc_s140 zc_s254 rfl)
        have t225 : σ100 140 14 = r97 := by rw [eσ100]; exact zq_up_same _ _ _ _
        have t226 := zc_g140_8 hσ152 zc_s140
        have t227 : σ152 140 8 = σ139 140 8 := by rw [eσ152]; exact zq_up_ne (by omega)
        have t228 : σ139 140 8 = σ131 140 8 := by rw [eσ139]; exact zq_up_ne (by omega)
        have t229 : σ131 140 8 = σ100 140 8 := by rw [eσ131]; exact zq_up_ne (zc_dk zc_s140 zc_s254 rfl)
        have t230 : σ100 140 8 = σ85 140 8 := by rw [eσ100]; exact zq_up_ne (by omega)
        have t231 : σ85 140 8 = σ20 140 8 := by rw [eσ85]; exact zq_up_ne (by omega)
        have t232 : σ20 140 8 = σ7 140 8 := by rw [eσ20]; exact zq_up_ne (by omega)
        have t233 : σ7 140 8 = y7 := by rw [eσ7]; exact zq_up_same _ _ _ _
        have t234 := zc_g140_9 hσ152 zc_s140
        have t235 : σ152 140 9 = y152 := by rw [eσ152]; exact zq_up_same _ _ _ _
        exact zr_vret (pc := 155) hV dX6_countStep_155 rfl rfl ⟨rfl, hσ152, hFσ152, trivial, (show zs_ct σ σ152 (σ 144) order place (σ 141 4) from ⟨⟨0, Or.inr ⟨(by first | exact fun h => absurd h.1 (by omega) | exact (fun h => by have x43 : ∀ i : Nat, zw_tb r43 i ↔ zw_ls (σ 144) (σ order 12) i := (fun i => by have z := pr43.2 i; rw [(funext (fun i => hFσ20 144 i (zc_out_ar zc_s144 rfl)) : σ20 144 = σ 144), show σ20 order 12 = σ order 12 by omega] at z; exact z); obtain ⟨-, i, i1, i2, i3⟩ := h; exact absurd ((zw_tb_and (x := σ 140 14) (y := r43) (by omega) (by omega)).mpr ⟨i, i1, i2, (x43 i).mpr i3⟩) (by rw [show σ 140 14 = σ20 140 14 by omega]; omega))), rfl⟩, (by rw [if_neg (by omega)]; unfold zs_w at wy20 wy152 ⊢; omega), (by rw [Int.add_zero, zs_w_id (zc_g140_10 hσ zc_s140)]; omega)⟩, (by unfold zs_w at wy7 ⊢; omega), (by rw [if_neg (by omega)]; unfold zs_w at wy139 ⊢; omega), by omega, ⟨by omega, by omega, fun i => by have z := pr97.2 i; rw [(funext (fun i => hFσ85 144 i (zc_out_ar zc_s144 rfl)) : σ85 144 = σ 144), show σ85 order 13 = σ order 13 by omega] at z; rw [show σ152 140 14 = r97 by omega]; exact z⟩, (fun i => by rw [eσ152, zq_up_ne (by omega), eσ139, zq_up_ne (by omega), eσ131]; by_cases hc : i = place; (rw [if_pos hc, hc, zq_up_same]; omega); (rw [if_neg hc, zq_up_ne (by omega)]; exact hFσ100g i))⟩)⟩
    · show V 50 [some (ZR 140), some (ZR order), some (ZI place)] [] 284 σ20
      refine zr_aload_n (pc := 50) hV dX6_countStep_50 rfl rfl ?_
      refine zr_dup (pc := 51) hV dX6_countStep_51 (fun _ => rfl) ?_
      refine zr_getI (pc := 52) hV 10 dX6_countStep_52 fX6_56 rfl rfl (zc_k140 zc_s140) (zc_pos zc_s140 rfl) ?_
      have t236 := zc_g140_10 hσ20 zc_s140
      have t237 : σ20 140 10 = σ7 140 10 := by rw [eσ20]; exact zq_up_ne (by omega)
      have t238 : σ7 140 10 = σ 140 10 := by rw [eσ7]; exact zq_up_ne (by omega)
      refine zr_aload_n (pc := 55) hV dX6_countStep_55 rfl rfl ?_
      refine zr_getI (pc := 56) hV 13 dX6_countStep_56 fX6_71 rfl rfl (zc_k140 zc_s140) (zc_pos zc_s140 rfl) ?_
      have t239 := zc_g140_13 hσ20 zc_s140
      have t240 : σ20 140 13 = σ7 140 13 := by rw [eσ20]; exact zq_up_ne (by omega)
      have t241 : σ7 140 13 = σ 140 13 := by rw [eσ7]; exact zq_up_ne (by omega)
      refine zr_iconst (pc := 59) hV 1 dX6_countStep_59 rfl ?_
      refine zr_isub (pc := 60) hV dX6_countStep_60 ?_
      refine zr_iadd (pc := 61) hV dX6_countStep_61 ?_
      refine zr_any (pc := 62) hV (fun y62 hy62 jy62 => ?_)
      have wy62 : y62 = zs_w ((σ20 140 10) + ((σ20 140 13) - 1)) := zs_w_any hy62 jy62
      clear jy62
      refine zr_putI (pc := 62) hV 10 dX6_countStep_62 fX6_56 rfl rfl rfl (zc_k140 zc_s140) (zc_pos zc_s140 rfl) (fun σ62 eσ62 => ?_)
      have hσ62 : zc_T σ62 := zc_u140_10 eσ62 hσ20 zc_s140 (by omega)
      have hFσ62 := zc_Fw eσ62 zc_s140 rfl hFσ20
      refine zr_aload_n (pc := 65) hV dX6_countStep_65 rfl rfl ?_
      refine zr_dup (pc := 66) hV dX6_countStep_66 (fun _ => rfl) ?_
      refine zr_getI (pc := 67) hV 9 dX6_countStep_67 fX6_53 rfl rfl (zc_k140 zc_s140) (zc_pos zc_s140 rfl) ?_
      have t242 := zc_g140_9 hσ62 zc_s140
      have t243 : σ62 140 9 = σ20 140 9 := by rw [eσ62]; exact zq_up_ne (by omega)
      have t244 : σ20 140 9 = y20 := by rw [eσ20]; exact zq_up_same _ _ _ _
      refine zr_aload_n (pc := 70) hV dX6_countStep_70 rfl rfl ?_
      refine zr_getI (pc := 71) hV 13 dX6_countStep_71 fX6_71 rfl rfl (zc_k140 zc_s140) (zc_pos zc_s140 rfl) ?_
      have t245 := zc_g140_13 hσ62 zc_s140
      have t246 : σ62 140 13 = σ20 140 13 := by rw [eσ62]; exact zq_up_ne (by omega)
      have t247 : σ20 140 13 = σ7 140 13 := by rw [eσ20]; exact zq_up_ne (by omega)
      have t248 : σ7 140 13 = σ 140 13 := by rw [eσ7]; exact zq_up_ne (by omega)
      refine zr_iconst (pc := 74) hV 1 dX6_countStep_74 rfl ?_
      refine zr_isub (pc := 75) hV dX6_countStep_75 ?_
      refine zr_iadd (pc := 76) hV dX6_countStep_76 ?_
      refine zr_any (pc := 77) hV (fun y77 hy77 jy77 => ?_)
      have wy77 : y77 = zs_w ((σ62 140 9) + ((σ62 140 13) - 1)) := zs_w_any hy77 jy77
      clear jy77
      refine zr_putI (pc := 77) hV 9 dX6_countStep_77 fX6_53 rfl rfl rfl (zc_k140 zc_s140) (zc_pos zc_s140 rfl) (fun σ77 eσ77 => ?_)
      have hσ77 : zc_T σ77 := zc_u140_9 eσ77 hσ62 zc_s140 (by omega)
      have hFσ77 := zc_Fw eσ77 zc_s140 rfl hFσ62
      show V 80 [some (ZR 140), some (ZR order), some (ZI place)] [] 284 σ77
      refine zr_aload_n (pc := 80) hV dX6_countStep_80 rfl rfl ?_
      refine zr_aload_n (pc := 81) hV dX6_countStep_81 rfl rfl ?_
      refine zr_getI (pc := 82) hV 11 dX6_countStep_82 fX6_130 rfl rfl (zc_k4 korder) (zc_pos korder rfl) ?_
      have t249 := zc_g4_11 hσ77 korder
      have t250 : σ77 order 11 = σ62 order 11 := by rw [eσ77]; exact zq_up_ne (zc_dk korder zc_s140 rfl)
      have t251 : σ62 order 11 = σ20 order 11 := by rw [eσ62]; exact zq_up_ne (zc_dk korder zc_s140 rfl)
      have t252 : σ20 order 11 = σ7 order 11 := by rw [eσ20]; exact zq_up_ne (zc_dk korder zc_s140 rfl)
      have t253 : σ7 order 11 = σ order 11 := by rw [eσ7]; exact zq_up_ne (zc_dk korder zc_s140 rfl)
      refine zr_putI (pc := 85) hV 13 dX6_countStep_85 fX6_71 rfl rfl rfl (zc_k140 zc_s140) (zc_pos zc_s140 rfl) (fun σ85 eσ85 => ?_)
      have hσ85 : zc_T σ85 := zc_u140_13 eσ85 hσ77 zc_s140 (by omega)
      have hFσ85 := zc_Fw eσ85 zc_s140 rfl hFσ77
      refine zr_aload_n (pc := 88) hV dX6_countStep_88 rfl rfl ?_
      refine zr_aload_n (pc := 89) hV dX6_countStep_89 rfl rfl ?_
      refine zr_getR (pc := 90) hV 2 141 dX6_countStep_90 fX6_16 rfl rfl (zc_k140 zc_s140) (zc_pos zc_s140 rfl) (zc_g140_2 hσ85 zc_s140) (by decide) ?_
      refine zr_aload_n (pc := 93) hV dX6_countStep_93 rfl rfl ?_
      refine zr_getI (pc := 94) hV 13 dX6_countStep_94 fX6_138 rfl rfl (zc_k4 korder) (zc_pos korder rfl) ?_
      have t254 := zc_g4_13 hσ85 korder
      have t255 : σ85 order 13 = σ77 order 13 := by rw [eσ85]; exact zq_up_ne (zc_dk korder zc_s140 rfl)
      have t256 : σ77 order 13 = σ62 order 13 := by rw [eσ77]; exact zq_up_ne (zc_dk korder zc_s140 rfl)
      have t257 : σ62 order 13 = σ20 order 13 := by rw [eσ62]; exact zq_up_ne (zc_dk korder zc_s140 rfl)
      have t258 : σ20 order 13 = σ7 order 13 := by rw [eσ20]; exact zq_up_ne (zc_dk korder zc_s140 rfl)
      have t259 : σ7 order 13 = σ order 13 := by rw [eσ7]; exact zq_up_ne (zc_dk korder zc_s140 rfl)
      have t260 := zc_g4_13 hσ85 korder
      have t261 : σ85 order 13 = σ77 order 13 := by rw [eσ85]; exact zq_up_ne (zc_dk korder zc_s140 rfl)
      have t262 : σ77 order 13 = σ62 order 13 := by rw [eσ77]; exact zq_up_ne (zc_dk korder zc_s140 rfl)
      have t263 : σ62 order 13 = σ20 order 13 := by rw [eσ62]; exact zq_up_ne (zc_dk korder zc_s140 rfl)
      have t264 : σ20 order 13 = σ7 order 13 := by rw [eσ20]; exact zq_up_ne (zc_dk korder zc_s140 rfl)
      have t265 : σ7 order 13 = σ order 13 := by rw [eσ7]; exact zq_up_ne (zc_dk korder zc_s140 rfl)
      refine zr_callVp (pc := 97) hV [ZI (σ85 order 13)] (st := [ZR 140]) (c_X10_storesOf_2 (σ := σ85) hσ85 (σ85 order 13) (by omega) (fun f f0 f2 => by rw [hFσ85 144 f (zc_out_ar zc_s144 rfl)]; exact q1 f f0 f2)) dX6_countStep_97 mX6_134 (zc_k141 zc_s141) (zc_pos zc_s141 rfl) (by decide) (Nat.le_of_ble_eq_true rfl) (Nat.le_refl _) (fun r97 hr97 pr97 => ?_)
      have t266 := zc_g4_13 hσ85 korder
      have t267 : σ85 order 13 = σ77 order 13 := by rw [eσ85]; exact zq_up_ne (zc_dk korder zc_s140 rfl)
      have t268 : σ77 order 13 = σ62 order 13 := by rw [eσ77]; exact zq_up_ne (zc_dk korder zc_s140 rfl)
      have t269 : σ62 order 13 = σ20 order 13 := by rw [eσ62]; exact zq_up_ne (zc_dk korder zc_s140 rfl)
      have t270 : σ20 order 13 = σ7 order 13 := by rw [eσ20]; exact zq_up_ne (zc_dk korder zc_s140 rfl)
      have t271 : σ7 order 13 = σ order 13 := by rw [eσ7]; exact zq_up_ne (zc_dk korder zc_s140 rfl)
      refine zr_putI (pc := 100) hV 14 dX6_countStep_100 fX6_74 rfl rfl rfl (zc_k140 zc_s140) (zc_pos zc_s140 rfl) (fun σ100 eσ100 => ?_)
      have hσ100 : zc_T σ100 := zc_u140_14 eσ100 hσ85 zc_s140 (by omega)
      have hFσ100 := zc_Fw eσ100 zc_s140 rfl hFσ85
      have hFσ100g : ∀ i, σ100 254 i = σ 254 i := fun i => by rw [eσ100, zq_up_ne (by omega), eσ85, zq_up_ne (by omega), eσ77, zq_up_ne (by omega), eσ62, zq_up_ne (by omega), eσ20, zq_up_ne (by omega), eσ7, zq_up_ne (by omega)]
      refine zr_aload_n (pc := 103) hV dX6_countStep_103 rfl rfl ?_
      refine zr_getR (pc := 104) hV 7 254 dX6_countStep_104 fX6_28 rfl rfl (zc_k140 zc_s140) (zc_pos zc_s140 rfl) (zc_g140_7 hσ100 zc_s140) (by decide) ?_
      refine zr_iload_n (pc := 107) hV dX6_countStep_107 rfl rfl ?_
      refine zr_iald (pc := 108) hV dX6_countStep_108 (zc_k254 zc_s254) (zc_pos zc_s254 rfl) rfl (by omega) ?_
      have t272 := zc_ga254 hσ100 zc_s254 place
      have t273 : σ100 254 place = σ85 254 place := by rw [eσ100]; exact zq_up_ne (zc_dk zc_s254 zc_s140 rfl)
      have t274 : σ85 254 place = σ77 254 place := by rw [eσ85]; exact zq_up_ne (zc_dk zc_s254 zc_s140 rfl)
      have t275 : σ77 254 place = σ62 254 place := by rw [eσ77]; exact zq_up_ne (zc_dk zc_s254 zc_s140 rfl)
      have t276 : σ62 254 place = σ20 254 place := by rw [eσ62]; exact zq_up_ne (zc_dk zc_s254 zc_s140 rfl)
      have t277 : σ20 254 place = σ7 254 place := by rw [eσ20]; exact zq_up_ne (zc_dk zc_s254 zc_s140 rfl)
      have t278 : σ7 254 place = σ 254 place := by rw [eσ7]; exact zq_up_ne (zc_dk zc_s254 zc_s140 rfl)
      refine zr_aload_n (pc := 109) hV dX6_countStep_109 rfl rfl ?_
      refine zr_getR (pc := 110) hV 2 141 dX6_countStep_110 fX6_16 rfl rfl (zc_k140 zc_s140) (zc_pos zc_s140 rfl) (zc_g140_2 hσ100 zc_s140) (by decide) ?_
      refine zr_getI (pc := 113) hV 4 dX6_countStep_113 fX6_85 rfl rfl (zc_k141 zc_s141) (zc_pos zc_s141 rfl) ?_
      have t279 := zc_g141_4 hσ100 zc_s141
      have t280 : σ100 141 4 = σ85 141 4 := by rw [eσ100]; exact zq_up_ne (zc_dk zc_s141 zc_s140 rfl)
      have t281 : σ85 141 4 = σ77 141 4 := by rw [eσ85]; exact zq_up_ne (zc_dk zc_s141 zc_s140 rfl)
      have t282 : σ77 141 4 = σ62 141 4 := by rw [eσ77]; exact zq_up_ne (zc_dk zc_s141 zc_s140 rfl)
      have t283 : σ62 141 4 = σ20 141 4 := by rw [eσ62]; exact zq_up_ne (zc_dk zc_s141 zc_s140 rfl)
      have t284 : σ20 141 4 = σ7 141 4 := by rw [eσ20]; exact zq_up_ne (zc_dk zc_s141 zc_s140 rfl)
      have t285 : σ7 141 4 = σ 141 4 := by rw [eσ7]; exact zq_up_ne (zc_dk zc_s141 zc_s140 rfl)
      refine zr_icmp_eq (pc := 116) hV 155 dX6_countStep_116 (by decide) (by omega) (by omega) (fun c286 => ?_) (fun c286 => ?_)
      · show V 155 [some (ZR 140), some (ZR order), some (ZI place)] [] 284 σ100
        have t287 := zc_g140_10 hσ100 zc_s140
        have t288 : σ100 140 10 = σ85 140 10 := by rw [eσ100]; exact zq_up_ne (by omega)
        have t289 : σ85 140 10 = σ77 140 10 := by rw [eσ85]; exact zq_up_ne (by omega)
        have t290 : σ77 140 10 = σ62 140 10 := by rw [eσ77]; exact zq_up_ne (by omega)
        have t291 : σ62 140 10 = y62 := by rw [eσ62]; exact zq_up_same _ _ _ _
        have t292 := zc_g140_11 hσ100 zc_s140
        have t293 : σ100 140 11 = σ85 140 11 := by rw [eσ100]; exact zq_up_ne (by omega)
        have t294 : σ85 140 11 = σ77 140 11 := by rw [eσ85]; exact zq_up_ne (by omega)
        have t295 : σ77 140 11 = σ62 140 11 := by rw [eσ77]; exact zq_up_ne (by omega)
        have t296 : σ62 140 11 = σ20 140 11 := by rw [eσ62]; exact zq_up_ne (by omega)
        have t297 : σ20 140 11 = σ7 140 11 := by rw [eσ20]; exact zq_up_ne (by omega)
        have t298 : σ7 140 11 = σ 140 11 := by rw [eσ7]; exact zq_up_ne (by omega)
        have t299 := zc_g140_13 hσ100 zc_s140
        have t300 : σ100 140 13 = σ85 140 13 := by rw [eσ100]; exact zq_up_ne (by omega)
        have t301 : σ85 140 13 = σ77 order 11 := by rw [eσ85]; exact zq_up_same _ _ _ _
        have t302 := zc_g140_14 hσ100 zc_s140
        have t303 : σ100 140 14 = r97 := by rw [eσ100]; exact zq_up_same _ _ _ _
        have t304 := zc_g140_8 hσ100 zc_s140
        have t305 : σ100 140 8 = σ85 140 8 := by rw [eσ100]; exact zq_up_ne (by omega)
        have t306 : σ85 140 8 = σ77 140 8 := by rw [eσ85]; exact zq_up_ne (by omega)
        have t307 : σ77 140 8 = σ62 140 8 := by rw [eσ77]; exact zq_up_ne (by omega)
        have t308 : σ62 140 8 = σ20 140 8 := by rw [eσ62]; exact zq_up_ne (by omega)
        have t309 : σ20 140 8 = σ7 140 8 := by rw [eσ20]; exact zq_up_ne (by omega)
        have t310 : σ7 140 8 = y7 := by rw [eσ7]; exact zq_up_same _ _ _ _
        have t311 := zc_g140_9 hσ100 zc_s140
        have t312 : σ100 140 9 = σ85 140 9 := by rw [eσ100]; exact zq_up_ne (by omega)
        have t313 : σ85 140 9 = σ77 140 9 := by rw [eσ85]; exact zq_up_ne (by omega)
        have t314 : σ77 140 9 = y77 := by rw [eσ77]; exact zq_up_same _ _ _ _
        exact zr_vret (pc := 155) hV dX6_countStep_155 rfl rfl ⟨rfl, hσ100, hFσ100, trivial, (show zs_ct σ σ100 (σ 144) order place (σ 141 4) from ⟨⟨σ 140 13 - 1, Or.inl ⟨by omega, (by have x43 : ∀ i : Nat, zw_tb r43 i ↔ zw_ls (σ 144) (σ order 12) i := (fun i => by have z := pr43.2 i; rw [(funext (fun i => hFσ20 144 i (zc_out_ar zc_s144 rfl)) : σ20 144 = σ 144), show σ20 order 12 = σ order 12 by omega] at z; exact z); obtain ⟨i, i1, i2, i3⟩ := (zw_tb_and (x := σ 140 14) (y := r43) (by omega) (by omega)).mp (by rw [show σ 140 14 = σ20 140 14 by omega]; omega); exact ⟨i, i1, i2, (x43 i).mp i3⟩), rfl⟩, (by rw [if_pos (by omega)]; unfold zs_w at wy20 wy77 ⊢; omega), (by unfold zs_w at wy62 ⊢; omega)⟩, (by unfold zs_w at wy7 ⊢; omega), (by rw [if_pos (by omega), Int.add_zero, zs_w_id (zc_g140_11 hσ zc_s140)]; omega), by omega, ⟨by omega, by omega, fun i => by have z := pr97.2 i; rw [(funext (fun i => hFσ85 144 i (zc_out_ar zc_s144 rfl)) : σ85 144 = σ 144), show σ85 order 13 = σ order 13 by omega] at z; rw [show σ100 140 14 = r97 by omega]; exact z⟩, (fun i => by by_cases hc : i = place; (rw [if_pos hc, hc, hFσ100g place]; omega); (rw [if_neg hc]; exact hFσ100g i))⟩)⟩
      · show V 119 [some (ZR 140), some (ZR order), some (ZI place)] [] 284 σ100
        refine zr_aload_n (pc := 119) hV dX6_countStep_119 rfl rfl ?_
        refine zr_getR (pc := 120) hV 7 254 dX6_countStep_120 fX6_28 rfl rfl (zc_k140 zc_s140) (zc_pos zc_s140 rfl) (zc_g140_7 hσ100 zc_s140) (by decide) ?_
        refine zr_iload_n (pc := 123) hV dX6_countStep_123 rfl rfl ?_
        refine zr_aload_n (pc := 124) hV dX6_countStep_124 rfl rfl ?_
        refine zr_getR (pc := 125) hV 2 141 dX6_countStep_125 fX6_16 rfl rfl (zc_k140 zc_s140) (zc_pos zc_s140 rfl) (zc_g140_2 hσ100 zc_s140) (by decide) ?_
        refine zr_getI (pc := 128) hV 4 dX6_countStep_128 fX6_85 rfl rfl (zc_k141 zc_s141) (zc_pos zc_s141 rfl) ?_
        have t315 := zc_g141_4 hσ100 zc_s141
        have t316 : σ100 141 4 = σ85 141 4 := by rw [eσ100]; exact zq_up_ne (zc_dk zc_s141 zc_s140 rfl)
        have t317 : σ85 141 4 = σ77 141 4 := by rw [eσ85]; exact zq_up_ne (zc_dk zc_s141 zc_s140 rfl)
        have t318 : σ77 141 4 = σ62 141 4 := by rw [eσ77]; exact zq_up_ne (zc_dk zc_s141 zc_s140 rfl)
        have t319 : σ62 141 4 = σ20 141 4 := by rw [eσ62]; exact zq_up_ne (zc_dk zc_s141 zc_s140 rfl)
        have t320 : σ20 141 4 = σ7 141 4 := by rw [eσ20]; exact zq_up_ne (zc_dk zc_s141 zc_s140 rfl)
        have t321 : σ7 141 4 = σ 141 4 := by rw [eσ7]; exact zq_up_ne (zc_dk zc_s141 zc_s140 rfl)
        refine zr_iast (pc := 131) hV dX6_countStep_131 (zc_k254 zc_s254) (zc_pos zc_s254 rfl) rfl (by omega) (fun σ131 eσ131 => ?_)
        have hσ131 : zc_T σ131 := zc_ua254 eσ131 hσ100 zc_s254 (by omega)
        have hFσ131 := zc_Fa eσ131 zc_s254 rfl hFσ100
        refine zr_aload_n (pc := 132) hV dX6_countStep_132 rfl rfl ?_
        refine zr_dup (pc := 133) hV dX6_countStep_133 (fun _ => rfl) ?_
        refine zr_getI (pc := 134) hV 11 dX6_countStep_134 fX6_59 rfl rfl (zc_k140 zc_s140) (zc_pos zc_s140 rfl) ?_
        have t322 := zc_g140_11 hσ131 zc_s140
        have t323 : σ131 140 11 = σ100 140 11 := by rw [eσ131]; exact zq_up_ne (zc_dk zc_s140 zc_s254 rfl)
        have t324 : σ100 140 11 = σ85 140 11 := by rw [eσ100]; exact zq_up_ne (by omega)
        have t325 : σ85 140 11 = σ77 140 11 := by rw [eσ85]; exact zq_up_ne (by omega)
        have t326 : σ77 140 11 = σ62 140 11 := by rw [eσ77]; exact zq_up_ne (by omega)
        have t327 : σ62 140 11 = σ20 140 11 := by rw [eσ62]; exact zq_up_ne (by omega)
        have t328 : σ20 140 11 = σ7 140 11 := by rw [eσ20]; exact zq_up_ne (by omega)
        have t329 : σ7 140 11 = σ 140 11 := by rw [eσ7]; exact zq_up_ne (by omega)
        refine zr_iconst (pc := 137) hV 1 dX6_countStep_137 rfl ?_
        refine zr_iadd (pc := 138) hV dX6_countStep_138 ?_
        refine zr_any (pc := 139) hV (fun y139 hy139 jy139 => ?_)
        have wy139 : y139 = zs_w ((σ131 140 11) + 1) := zs_w_any hy139 jy139
        clear jy139
        refine zr_putI (pc := 139) hV 11 dX6_countStep_139 fX6_59 rfl rfl rfl (zc_k140 zc_s140) (zc_pos zc_s140 rfl) (fun σ139 eσ139 => ?_)
        have hσ139 : zc_T σ139 := zc_u140_11 eσ139 hσ131 zc_s140 (by omega)
        have hFσ139 := zc_Fw eσ139 zc_s140 rfl hFσ131
        refine zr_aload_n (pc := 142) hV dX6_countStep_142 rfl rfl ?_
        refine zr_dup (pc := 143) hV dX6_countStep_143 (fun _ => rfl) ?_
        refine zr_getI (pc := 144) hV 9 dX6_countStep_144 fX6_53 rfl rfl (zc_k140 zc_s140) (zc_pos zc_s140 rfl) ?_
        have t330 := zc_g140_9 hσ139 zc_s140
        have t331 : σ139 140 9 = σ131 140 9 := by rw [eσ139]; exact zq_up_ne (by omega)
        have t332 : σ131 140 9 = σ100 140 9 := by rw [eσ131]; exact zq_up_ne (zc_dk zc_s140 zc_s254 rfl)
        have t333 : σ100 140 9 = σ85 140 9 := by rw [eσ100]; exact zq_up_ne (by omega)
        have t334 : σ85 140 9 = σ77 140 9 := by rw [eσ85]; exact zq_up_ne (by omega)
        have t335 : σ77 140 9 = y77 := by rw [eσ77]; exact zq_up_same _ _ _ _
        refine zr_aload_n (pc := 147) hV dX6_countStep_147 rfl rfl ?_
        refine zr_getI (pc := 148) hV 12 dX6_countStep_148 fX6_43 rfl rfl (zc_k140 zc_s140) (zc_pos zc_s140 rfl) ?_
        have t336 := zc_g140_12 hσ139 zc_s140
        have t337 : σ139 140 12 = σ131 140 12 := by rw [eσ139]; exact zq_up_ne (by omega)
        have t338 : σ131 140 12 = σ100 140 12 := by rw [eσ131]; exact zq_up_ne (zc_dk zc_s140 zc_s254 rfl)
        have t339 : σ100 140 12 = σ85 140 12 := by rw [eσ100]; exact zq_up_ne (by omega)
        have t340 : σ85 140 12 = σ77 140 12 := by rw [eσ85]; exact zq_up_ne (by omega)
        have t341 : σ77 140 12 = σ62 140 12 := by rw [eσ77]; exact zq_up_ne (by omega)
        have t342 : σ62 140 12 = σ20 140 12 := by rw [eσ62]; exact zq_up_ne (by omega)
        have t343 : σ20 140 12 = σ7 140 12 := by rw [eσ20]; exact zq_up_ne (by omega)
        have t344 : σ7 140 12 = σ 140 12 := by rw [eσ7]; exact zq_up_ne (by omega)
        refine zr_iadd (pc := 151) hV dX6_countStep_151 ?_
        refine zr_any (pc := 152) hV (fun y152 hy152 jy152 => ?_)
        have wy152 : y152 = zs_w ((σ139 140 9) + (σ139 140 12)) := zs_w_any hy152 jy152
        clear jy152
        refine zr_putI (pc := 152) hV 9 dX6_countStep_152 fX6_53 rfl rfl rfl (zc_k140 zc_s140) (zc_pos zc_s140 rfl) (fun σ152 eσ152 => ?_)
        have hσ152 : zc_T σ152 := zc_u140_9 eσ152 hσ139 zc_s140 (by omega)
        have hFσ152 := zc_Fw eσ152 zc_s140 rfl hFσ139
        show V 155 [some (ZR 140), some (ZR order), some (ZI place)] [] 284 σ152
        have t345 := zc_g140_10 hσ152 zc_s140
        have t346 : σ152 140 10 = σ139 140 10 := by rw [eσ152]; exact zq_up_ne (by omega)
        have t347 : σ139 140 10 = σ131 140 10 := by rw [eσ139]; exact zq_up_ne (by omega)
        have t348 : σ131 140 10 = σ100 140 10 := by rw [eσ131]; exact zq_up_ne (zc_dk zc_s140 zc_s254 rfl)
        have t349 : σ100 140 10 = σ85 140 10 := by rw [eσ100]; exact zq_up_ne (by omega)
        have t350 : σ85 140 10 = σ77 140 10 := by rw [eσ85]; exact zq_up_ne (by omega)
        have t351 : σ77 140 10 = σ62 140 10 := by rw [eσ77]; exact zq_up_ne (by omega)
        have t352 : σ62 140 10 = y62 := by rw [eσ62]; exact zq_up_same _ _ _ _
        have t353 := zc_g140_11 hσ152 zc_s140
        have t354 : σ152 140 11 = σ139 140 11 := by rw [eσ152]; exact zq_up_ne (by omega)
        have t355 : σ139 140 11 = y139 := by rw [eσ139]; exact zq_up_same _ _ _ _
        have t356 := zc_g140_13 hσ152 zc_s140
        have t357 : σ152 140 13 = σ139 140 13 := by rw [eσ152]; exact zq_up_ne (by omega)
        have t358 : σ139 140 13 = σ131 140 13 := by rw [eσ139]; exact zq_up_ne (by omega)
        have t359 : σ131 140 13 = σ100 140 13 := by rw [eσ131]; exact zq_up_ne (zc_dk zc_s140 zc_s254 rfl)
        have t360 : σ100 140 13 = σ85 140 13 := by rw [eσ100]; exact zq_up_ne (by omega)
        have t361 : σ85 140 13 = σ77 order 11 := by rw [eσ85]; exact zq_up_same _ _ _ _
        have t362 := zc_g140_14 hσ152 zc_s140
        have t363 : σ152 140 14 = σ139 140 14 := by rw [eσ152]; exact zq_up_ne (by omega)
        have t364 : σ139 140 14 = σ131 140 14 := by rw [eσ139]; exact zq_up_ne (by omega)
        have t365 : σ131 140 14 = σ100 140 14 := by rw [eσ131]; exact zq_up_ne (zc_dk zc_s140 zc_s254 rfl)
        have t366 : σ100 140 14 = r97 := by rw [eσ100]; exact zq_up_same _ _ _ _
        have t367 := zc_g140_8 hσ152 zc_s140
        have t368 : σ152 140 8 = σ139 140 8 := by rw [eσ152]; exact zq_up_ne (by omega)
        have t369 : σ139 140 8 = σ131 140 8 := by rw [eσ139]; exact zq_up_ne (by omega)
        have t370 : σ131 140 8 = σ100 140 8 := by rw [eσ131]; exact zq_up_ne (zc_dk zc_s140 zc_s254 rfl)
        have t371 : σ100 140 8 = σ85 140 8 := by rw [eσ100]; exact zq_up_ne (by omega)
        have t372 : σ85 140 8 = σ77 140 8 := by rw [eσ85]; exact zq_up_ne (by omega)
        have t373 : σ77 140 8 = σ62 140 8 := by rw [eσ77]; exact zq_up_ne (by omega)
        have t374 : σ62 140 8 = σ20 140 8 := by rw [eσ62]; exact zq_up_ne (by omega)
        have t375 : σ20 140 8 = σ7 140 8 := by rw [eσ20]; exact zq_up_ne (by omega)
        have t376 : σ7 140 8 = y7 := by rw [eσ7]; exact zq_up_same _ _ _ _
        have t377 := zc_g140_9 hσ152 zc_s140
        have t378 : σ152 140 9 = y152 := by rw [eσ152]; exact zq_up_same _ _ _ _
        exact zr_vret (pc := 155) hV dX6_countStep_155 rfl rfl ⟨rfl, hσ152, hFσ152, trivial, (show zs_ct σ σ152 (σ 144) order place (σ 141 4) from ⟨⟨σ 140 13 - 1, Or.inl ⟨by omega, (by have x43 : ∀ i : Nat, zw_tb r43 i ↔ zw_ls (σ 144) (σ order 12) i := (fun i => by have z := pr43.2 i; rw [(funext (fun i => hFσ20 144 i (zc_out_ar zc_s144 rfl)) : σ20 144 = σ 144), show σ20 order 12 = σ order 12 by omega] at z; exact z); obtain ⟨i, i1, i2, i3⟩ := (zw_tb_and (x := σ 140 14) (y := r43) (by omega) (by omega)).mp (by rw [show σ 140 14 = σ20 140 14 by omega]; omega); exact ⟨i, i1, i2, (x43 i).mp i3⟩), rfl⟩, (by rw [if_neg (by omega)]; unfold zs_w at wy20 wy77 wy152 ⊢; omega), (by unfold zs_w at wy62 ⊢; omega)⟩, (by unfold zs_w at wy7 ⊢; omega), (by rw [if_neg (by omega)]; unfold zs_w at wy139 ⊢; omega), by omega, ⟨by omega, by omega, fun i => by have z := pr97.2 i; rw [(funext (fun i => hFσ85 144 i (zc_out_ar zc_s144 rfl)) : σ85 144 = σ 144), show σ85 order 13 = σ order 13 by omega] at z; rw [show σ152 140 14 = r97 by omega]; exact z⟩, (fun i => by rw [eσ152, zq_up_ne (by omega), eσ139, zq_up_ne (by omega), eσ131]; by_cases hc : i = place; (rw [if_pos hc, hc, zq_up_same]; omega); (rw [if_neg hc, zq_up_ne (by omega)]; exact hFσ100g i))⟩)⟩
set_option maxHeartbeats 800000 in
theorem c_X6_step_2 {σ : zq_S} (hσ : zc_T σ)  (q0 : zq_hid (zs_ps σ)) : zq_C zc_w yX6_step cX6_step 4 (some .boolean) 5 111 284 284 [ZR 140] σ (zq_pi (fun r τ => zc_T τ ∧ zc_Fr [(140, 5), (140, 6), (140, 8), (140, 9), (140, 10), (140, 11), (140, 13), (140, 14), (141, 3), (141, 4), (141, 6), (142, -1), (143, -1), (144, -1), (145, -1), (146, -1), (154, -1), (254, -1)] σ τ ∧ ((0 ≤ r ∧ r ≤ 1)) ∧ zq_hid ((r = 0 → ¬ zs_can σ 141 ∧ ∀ a i, τ a i = σ a i) ∧ (r = 1 → zs_can σ 141 ∧ zs_sc σ τ (zs_oa σ 141) (zs_bt σ 141))))) := by
  refine zq_C_of (by decide) (Nat.le_refl _) (Nat.le_of_ble_eq_true rfl) [some (ZR 140), none, none, none] rfl (fun V hV => ?_)
  have hFσ := zc_Fr_rf [(140, 5), (140, 6), (140, 8), (140, 9), (140, 10), (140, 11), (140, 13), (140, 14), (141, 3), (141, 4), (141, 6), (142, -1), (143, -1), (144, -1), (145, -1), (146, -1), (154, -1), (254, -1)] σ
  have okp : 0 ≤ σ 141 4 ∧ σ 141 4 ≤ 63 := by have z := q0.2.1.2.2.2.2.1; rw [zw_cs_p] at z; exact z
  have am := zq_and_mask (σ 141 4) 6 63 64 (by decide) (by decide) (by decide)
  have ep : zq_and (σ 141 4) 63 = σ 141 4 := by omega
  have c139 := (q0.1 (zq_and (σ 141 4) 63) (by omega) (by omega)).1
  have q14 := q0.2.2
  show V 0 [some (ZR 140), none, none, none] [] 284 σ
  refine zr_aload_n (pc := 0) hV dX6_step_0 rfl rfl ?_
  refine zr_getR (pc := 1) hV 2 141 dX6_step_1 fX6_16 rfl rfl (zc_k140 zc_s140) (zc_pos zc_s140 rfl) (zc_g140_2 hσ zc_s140) (by decide) ?_
  refine zr_getI (pc := 4) hV 4 dX6_step_4 fX6_85 rfl rfl (zc_k141 zc_s141) (zc_pos zc_s141 rfl) ?_
  have t1 := zc_g141_4 hσ zc_s141
  refine zr_bipush (pc := 7) hV 63 dX6_step_7 (by decide) ?_
  refine zr_iand (pc := 9) hV dX6_step_9 ?_
  have t2 := zq_and_mask (σ 141 4) 6 63 64 (by decide) (by decide) (by decide)
  refine zr_istore_n (pc := 10) hV [some (ZR 140), some (ZI (zq_and (σ 141 4) 63)), none, none] dX6_step_10 rfl (by decide) rfl rfl ?_
  refine zr_aload_n (pc := 11) hV dX6_step_11 rfl rfl ?_
  refine zr_getR (pc := 12) hV 0 3 dX6_step_12 fX6_32 rfl rfl (zc_k140 zc_s140) (zc_pos zc_s140 rfl) (zc_g140_0 hσ zc_s140) (by decide) ?_
  refine zr_aload_n (pc := 15) hV dX6_step_15 rfl rfl ?_
  refine zr_getR (pc := 16) hV 1 139 dX6_step_16 fX6_36 rfl rfl (zc_k140 zc_s140) (zc_pos zc_s140 rfl) (zc_g140_1 hσ zc_s140) (by decide) ?_
  refine zr_iload_n (pc := 19) hV dX6_step_19 rfl rfl ?_
  refine zr_iald (pc := 20) hV dX6_step_20 (zc_k139 zc_s139) (zc_pos zc_s139 rfl) rfl (by omega) ?_
  have t3 := zc_ga139 hσ zc_s139 (zq_and (σ 141 4) 63)
  have t4 := zc_g141_4 hσ zc_s141
  refine zr_callVr (pc := 21) hV [ZI (σ 139 (zq_and (σ 141 4) 63))] (st := []) (c_X9_orderOf_2 (σ := σ) hσ (σ 139 (zq_and (σ 141 4) 63)) (by omega)) dX6_step_21 mX6_88 (zc_k3 zc_s3) (zc_pos zc_s3 rfl) (by decide) (Nat.le_of_ble_eq_true rfl) (Nat.le_refl _) (fun r21 pr21 => ?_)
  refine zr_astore_nQ (pc := 24) hV [some (ZR 140), some (ZI (zq_and (σ 141 4) 63)), some (zq_nr r21), none] dX6_step_24 rfl (by decide) rfl rfl ?_
  refine zr_aload_nQ (pc := 25) hV dX6_step_25 rfl rfl ?_
  by_cases c5 : r21 < 0
  · rw [zq_nr_n c5]
    refine zr_ifnonnullN (pc := 26) hV dX6_step_26 ?_
    show V 29 [some (ZR 140), some (ZI (zq_and (σ 141 4) 63)), some (ZN), none] [] 284 σ
    refine zr_iconst (pc := 29) hV 0 dX6_step_29 rfl ?_
    exact zr_zret (pc := 30) hV dX6_step_30 rfl rfl (by omega) ⟨_, rfl, ⟨by decide, by decide⟩, hσ, hFσ, (by omega), (show ((0 : Int) = 0 → ¬ zs_can σ 141 ∧ ∀ a i, σ a i = σ a i) ∧ ((0 : Int) = 1 → zs_can σ 141 ∧ zs_sc σ σ (zs_oa σ 141) (zs_bt σ 141)) from ⟨fun _ => ⟨fun h => (pr21.2.2 (by omega)) (by unfold zs_can zs_bt at h; rw [← ep] at h; exact h), fun _ _ => rfl⟩, fun h => absurd h (by decide)⟩)⟩
  · rw [zq_nr_p c5]
    have kr21 : zc_kd r21 = 4 := pr21.1 (by omega)
    have por21 := zc_pos kr21 rfl
    refine zr_ifnonnull (pc := 26) hV 31 dX6_step_26 (by decide) ?_
    show V 31 [some (ZR 140), some (ZI (zq_and (σ 141 4) 63)), some (ZR r21), none] [] 284 σ
    have own := (pr21.2.1 (by omega))
    have og : zs_og σ r21 (σ 139 (zq_and (σ 141 4) 63)) (σ 141 0) := by rw [own.2]; exact (q0.1 _ (by omega) (by omega)).2 own.1
    refine zr_aload_n (pc := 31) hV dX6_step_31 rfl rfl ?_
    refine zr_getR (pc := 32) hV 4 153 dX6_step_32 fX6_25 rfl rfl (zc_k140 zc_s140) (zc_pos zc_s140 rfl) (zc_g140_4 hσ zc_s140) (by decide) ?_
    refine zr_aload_n (pc := 35) hV dX6_step_35 rfl rfl ?_
    refine zr_getI (pc := 36) hV 6 dX6_step_36 fX6_94 rfl rfl (zc_k140 zc_s140) (zc_pos zc_s140 rfl) ?_
    have t6 := zc_g140_6 hσ zc_s140
    have ga39 : σ 153 (σ 140 6) = 154 + (σ 140 6) := zc_ga153 hσ zc_s153 (σ 140 6) (by omega) (by omega)
    refine zr_aald (pc := 39) hV dX6_step_39 (zc_k153 zc_s153) (Or.inr rfl) (zc_pos zc_s153 rfl) rfl (by omega) (by omega) ?_
    obtain ⟨o39, eo39⟩ : ∃ o, σ 153 (σ 140 6) = o := ⟨_, rfl⟩
    rw [eo39] at ga39 ⊢
    have ko39 : zc_kd o39 = 154 := ga39 ▸ zc_e154 (by omega) (by omega)
    have po39 := zc_pos ko39 rfl
    show V 40 [some (ZR 140), some (ZI (zq_and (σ 141 4) 63)), some (ZR r21), none] [ZR o39] 284 σ
    refine zr_astore_n (pc := 40) hV [some (ZR 140), some (ZI (zq_and (σ 141 4) 63)), some (ZR r21), some (ZR o39)] dX6_step_40 rfl (by decide) rfl rfl ?_
    refine zr_aload_n (pc := 41) hV dX6_step_41 rfl rfl ?_
    refine zr_aload_n (pc := 42) hV dX6_step_42 rfl rfl ?_
    refine zr_iload_n (pc := 43) hV dX6_step_43 rfl rfl ?_
    have t7 := zc_g141_4 hσ zc_s141
    refine zr_callVv (pc := 44) hV [ZR o39, ZI (zq_and (σ 141 4) 63)] (st := []) (c_X6_noteAhead_2 (σ := σ) hσ o39 ko39 (zq_and (σ 141 4) 63) (by omega)) dX6_step_44 mX6_97 (zc_k140 zc_s140) (zc_pos zc_s140 rfl) (by decide) (Nat.le_of_ble_eq_true rfl) (Nat.le_refl _) (fun σ44 pσ44 => ?_)
    obtain ⟨hσ44, hfσ44, pσ44, wσ44⟩ := pσ44
    have hFσ44 := zc_Fc hfσ44 rfl hFσ
    have t8 := zc_g140_10 hσ zc_s140
    have t9 := zc_g140_11 hσ zc_s140
    have t10 := zc_g140_9 hσ zc_s140
    have t11 := zc_g141_3 hσ zc_s141
    have t12 := zc_g141_4 hσ zc_s141
    have t13 := zc_ga154 hσ44 ko39 0
    have t14 := zc_ga154 hσ44 ko39 1
    have t15 := zc_ga154 hσ44 ko39 2
    have t16 := zc_ga154 hσ44 ko39 3
    have t17 := zc_ga154 hσ44 ko39 4
    have t18 := zc_ga154 hσ44 ko39 5
    refine zr_aload_n (pc := 47) hV dX6_step_47 rfl rfl ?_
    refine zr_getR (pc := 48) hV 2 141 dX6_step_48 fX6_16 rfl rfl (zc_k140 zc_s140) (zc_pos zc_s140 rfl) (zc_g140_2 hσ44 zc_s140) (by decide) ?_
    refine zr_aload_n (pc := 51) hV dX6_step_51 rfl rfl ?_
    refine zr_aload_n (pc := 52) hV dX6_step_52 rfl rfl ?_
    refine zr_getR (pc := 53) hV 1 139 dX6_step_53 fX6_36 rfl rfl (zc_k140 zc_s140) (zc_pos zc_s140 rfl) (zc_g140_1 hσ44 zc_s140) (by decide) ?_
    refine zr_iload_n (pc := 56) hV dX6_step_56 rfl rfl ?_
    refine zr_iald (pc := 57) hV dX6_step_57 (zc_k139 zc_s139) (zc_pos zc_s139 rfl) rfl (by omega) ?_
    have t19 := zc_ga139 hσ44 zc_s139 (zq_and (σ 141 4) 63)
    have t20 : σ44 139 (zq_and (σ 141 4) 63) = σ 139 (zq_and (σ 141 4) 63) := hfσ44 _ _ (zc_out_ar zc_s139 rfl)
    have c44 : zw_cs σ44 141 = zw_cs σ 141 := zw_cs_c (fun i => hfσ44 142 i (zc_out_ar zc_s142 rfl)) (fun i => hfσ44 143 i (zc_out_ar zc_s143 rfl)) (hfσ44 141 3 (zc_out_at zc_s141 rfl)) (hfσ44 141 4 (zc_out_at zc_s141 rfl))
    have m44 : σ44 141 0 = σ 141 0 := hFσ44 141 0 (zc_out_at zc_s141 rfl)
    have e139 : σ44 139 (zq_and (σ 141 4) 63) = σ 139 (zq_and (σ 141 4) 63) := hFσ44 139 _ (zc_out_ar zc_s139 rfl)
    have t21 := zc_g141_0 hσ44 zc_s141
    have t22 : σ44 141 0 = σ 141 0 := hfσ44 _ _ (zc_out_at zc_s141 rfl)
    have t23 := zc_g141_0 hσ44 zc_s141
    have t24 : σ44 141 0 = σ 141 0 := hfσ44 _ _ (zc_out_at zc_s141 rfl)
    refine zr_callVv (pc := 58) hV [ZR r21, ZI (σ44 139 (zq_and (σ 141 4) 63))] (st := []) (c_X10_perform_2 (σ := σ44) hσ44 r21 kr21 (σ44 139 (zq_and (σ 141 4) 63)) (by omega) (zw_oo_fr (hFσ44 r21 4 (zc_out_at kr21 rfl)) (hFσ44 r21 5 (zc_out_at kr21 rfl)) (hFσ44 r21 6 (zc_out_at kr21 rfl)) (fun k i h2 h5 => by obtain rfl | rfl | rfl | rfl : k = 2 ∨ k = 3 ∨ k = 4 ∨ k = 5 := (by omega); exact hFσ44 _ _ (zc_out_ar (zc_p4_2 kr21) rfl); exact hFσ44 _ _ (zc_out_ar (zc_p4_3 kr21) rfl); exact hFσ44 _ _ (zc_out_ar (zc_p4_4 kr21) rfl); exact hFσ44 _ _ (zc_out_ar (zc_p4_5 kr21) rfl)) og.1) (by rw [e139, m44]; exact ⟨fun f f0 f2 => by rw [(zs_cv_fr (fun i => hFσ44 _ i (zc_out_ar (zc_p4_1 kr21) rfl)))]; exact og.2.1.1 f f0 f2, by rw [(zs_cv_fr (fun i => hFσ44 _ i (zc_out_ar (zc_p4_1 kr21) rfl)))]; exact og.2.1.2⟩) (by rw [c44, m44]; exact q0.2.1)) dX6_step_58 mX6_101 (zc_k141 zc_s141) (zc_pos zc_s141 rfl) (by decide) (Nat.le_of_ble_eq_true rfl) (Nat.le_refl _) (fun σ58 pσ58 => ?_)
    obtain ⟨hσ58, hfσ58, pσ58, wσ58⟩ := pσ58
    have hFσ58 := zc_Fc hfσ58 rfl hFσ44
    have t25 := zc_g141_0 hσ44 zc_s141
    have t26 : σ44 141 0 = σ 141 0 := hfσ44 _ _ (zc_out_at zc_s141 rfl)
    have t27 := zc_g141_4 hσ44 zc_s141
    have t28 : σ44 141 4 = σ 141 4 := hfσ44 _ _ (zc_out_at zc_s141 rfl)
    have t29 := zc_g4_4 hσ44 kr21
    have t30 : σ44 r21 4 = σ r21 4 := hfσ44 _ _ (zc_out_at kr21 rfl)
    have t31 := zc_g4_5 hσ44 kr21
    have t32 : σ44 r21 5 = σ r21 5 := hfσ44 _ _ (zc_out_at kr21 rfl)
    have t33 := zc_g4_6 hσ44 kr21
    have t34 : σ44 r21 6 = σ r21 6 := hfσ44 _ _ (zc_out_at kr21 rfl)
    refine zr_aload_n (pc := 61) hV dX6_step_61 rfl rfl ?_
    refine zr_aload_n (pc := 62) hV dX6_step_62 rfl rfl ?_
    refine zr_callVv (pc := 63) hV [ZR o39] (st := []) (c_X6_noteChanges_2 (σ := σ58) hσ58 o39 ko39) dX6_step_63 mX6_105 (zc_k140 zc_s140) (zc_pos zc_s140 rfl) (by decide) (Nat.le_of_ble_eq_true rfl) (Nat.le_refl _) (fun σ63 pσ63 => ?_)
    obtain ⟨hσ63, hfσ63, pσ63, wσ63⟩ := pσ63
    have hFσ63 := zc_Fc hfσ63 rfl hFσ58
    have t35 := zc_g140_5 hσ58 zc_s140
    have t36 : σ58 140 5 = σ44 140 5 := hfσ58 _ _ (zc_out_at zc_s140 rfl)
    have t37 : σ44 140 5 = σ 140 5 := hfσ44 _ _ (zc_out_at zc_s140 rfl)
    have t38 := zc_g140_6 hσ58 zc_s140
    have t39 : σ58 140 6 = σ44 140 6 := hfσ58 _ _ (zc_out_at zc_s140 rfl)
    have t40 : σ44 140 6 = σ 140 6 := hfσ44 _ _ (zc_out_at zc_s140 rfl)
    have t41 := zc_g140_5 hσ63 zc_s140
    have t42 := zc_g140_6 hσ63 zc_s140
    refine zr_aload_n (pc := 66) hV dX6_step_66 rfl rfl ?_
    refine zr_aload_n (pc := 67) hV dX6_step_67 rfl rfl ?_
    refine zr_iload_n (pc := 68) hV dX6_step_68 rfl rfl ?_
    have t43 := zc_g4_12 hσ63 kr21
    have t44 : σ63 r21 12 = σ58 r21 12 := hfσ63 _ _ (zc_out_at kr21 rfl)
    have t45 : σ58 r21 12 = σ44 r21 12 := hfσ58 _ _ (zc_out_at kr21 rfl)
    have t46 : σ44 r21 12 = σ r21 12 := hfσ44 _ _ (zc_out_at kr21 rfl)
    have t47 := zc_g4_13 hσ63 kr21
    have t48 : σ63 r21 13 = σ58 r21 13 := hfσ63 _ _ (zc_out_at kr21 rfl)
    have t49 : σ58 r21 13 = σ44 r21 13 := hfσ58 _ _ (zc_out_at kr21 rfl)
    have t50 : σ44 r21 13 = σ r21 13 := hfσ44 _ _ (zc_out_at kr21 rfl)
    have t51 := zc_g140_14 hσ63 zc_s140
    have t52 : σ63 140 14 = σ58 140 14 := hfσ63 _ _ (zc_out_at zc_s140 rfl)
    have t53 : σ58 140 14 = σ44 140 14 := hfσ58 _ _ (zc_out_at zc_s140 rfl)
    have t54 : σ44 140 14 = σ 140 14 := hfσ44 _ _ (zc_out_at zc_s140 rfl)
    refine zr_callVv (pc := 69) hV [ZR r21, ZI (zq_and (σ 141 4) 63)] (st := []) (c_X6_countStep_2 (σ := σ63) hσ63 r21 kr21 (zq_and (σ 141 4) 63) (by omega) (fun f f0 f2 => by rw [hfσ63 144 f (zc_out_ar zc_s144 rfl)]; exact wσ58.2.1.1 f f0 f2) (by rw [hFσ63 r21 12 (zc_out_at kr21 rfl)]; exact og.2.2.1) (by rw [hFσ63 r21 13 (zc_out_at kr21 rfl)]; exact og.2.2.2) (by omega)) dX6_step_69 mX6_109 (zc_k140 zc_s140) (zc_pos zc_s140 rfl) (by decide) (Nat.le_of_ble_eq_true rfl) (Nat.le_refl _) (fun σ69 pσ69 => ?_)
    obtain ⟨hσ69, hfσ69, pσ69, wσ69⟩ := pσ69
    have hFσ69 := zc_Fc hfσ69 rfl hFσ63
    have t55 := zc_g141_4 hσ63 zc_s141
    have t56 : σ63 141 4 = σ58 141 4 := hfσ63 _ _ (zc_out_at zc_s141 rfl)
    have ebt : σ 139 (zq_and (σ 141 4) 63) = zs_bt σ 141 := by unfold zs_bt; rw [ep]
    have eoa : r21 = zs_oa σ 141 := by unfold zs_oa; rw [← ebt]; exact own.2
    have can : zs_can σ 141 := by unfold zs_can; rw [← ebt]; exact own.1
    have n1 : zs_na σ σ44 o39 (σ 141 4) := by have z := pσ44; rw [ep] at z; exact ⟨z.1, z.2.1, z.2.2.1, z.2.2.2.1, z.2.2.2.2.1, z.2.2.2.2.2, wσ44⟩
    have n2 : zs_pf σ44 σ58 r21 (σ 139 (zq_and (σ 141 4) 63)) := by have z := wσ58; rw [e139] at z; exact z
    have n4 : zs_ct σ63 σ69 (σ63 144) r21 (σ 141 4) (σ63 141 4) := by have z := wσ69; rw [ep] at z; exact z
    refine zr_iconst (pc := 72) hV 1 dX6_step_72 rfl ?_
    exact zr_zret (pc := 73) hV dX6_step_73 rfl rfl (by omega) ⟨_, rfl, ⟨by decide, by decide⟩, hσ69, hFσ69, (by omega), (show ((1 : Int) = 0 → ¬ zs_can σ 141 ∧ ∀ a i, σ69 a i = σ a i) ∧ ((1 : Int) = 1 → zs_can σ 141 ∧ zs_sc σ σ69 (zs_oa σ 141) (zs_bt σ 141)) from ⟨fun h => absurd h (by decide), fun _ => ⟨can, by rw [← eoa, ← ebt]; exact zs_sc_mk ko39 kr21 (by omega) (by omega) hfσ44 n1 hfσ58 n2 hfσ63 wσ63 pσ63 hfσ69 n4⟩⟩)⟩
set_option maxHeartbeats 800000 in
theorem c_X6_goOn_2 {σ : zq_S} (hσ : zc_T σ) (n : Int) (q0 : 1 ≤ n ∧ n ≤ 2000) (q1 : zq_hid (zs_ps σ)) : zq_C zc_w yX6_goOn cX6_goOn 3 (some .int) 6 134 284 284 [ZR 140, ZI n] σ (zq_pi (fun r τ => zc_T τ ∧ zc_Fr [(140, 5), (140, 6), (140, 8), (140, 9), (140, 10), (140, 11), (140, 13), (140, 14), (141, 3), (141, 4), (141, 6), (142, -1), (143, -1), (144, -1), (145, -1), (146, -1), (154, -1), (254, -1)] σ τ ∧ ((0 ≤ r ∧ r ≤ 2000) ∧ r ≤ n) ∧ zq_hid (zs_cn zs_Rc r σ τ ∧ zs_ps τ ∧ (r < n → ¬ zs_can τ 141)))) := by
  refine zq_C_of (by decide) (Nat.le_refl _) (Nat.le_of_ble_eq_true rfl) [some (ZR 140), some (ZI n), none] rfl (fun V hV => ?_)
  have hFσ := zc_Fr_rf [(140, 5), (140, 6), (140, 8), (140, 9), (140, 10), (140, 11), (140, 13), (140, 14), (141, 3), (141, 4), (141, 6), (142, -1), (143, -1), (144, -1), (145, -1), (146, -1), (154, -1), (254, -1)] σ
  show V 0 [some (ZR 140), some (ZI n), none] [] 284 σ
  refine zr_iconst (pc := 0) hV 0 dX6_goOn_0 rfl ?_
  refine zr_istore_n (pc := 1) hV [some (ZR 140), some (ZI n), some (ZI 0)] dX6_goOn_1 rfl (by decide) rfl rfl ?_
  have L2 : ∀ (fuel : Nat) (x2_2 : Int) (σ_2 : zq_S), (0 ≤ x2_2 ∧ x2_2 ≤ 2000) → (zc_T σ_2) → (zc_Fr [(140, 5), (140, 6), (140, 8), (140, 9), (140, 10), (140, 11), (140, 13), (140, 14), (141, 3), (141, 4), (141, 6), (142, -1), (143, -1), (144, -1), (145, -1), (146, -1), (154, -1), (254, -1)] σ σ_2) → (zq_hid (zs_cn zs_Rc x2_2 σ σ_2)) → (zq_hid (zs_ps σ_2)) → (x2_2 ≤ n) → 2000 - x2_2 < (fuel : Int) → V 2 [some (ZR 140), some (ZI n), some (ZI x2_2)] [] 284 σ_2 := by
    intro fuel
    induction fuel with
    | zero =>
      intro x2_2 σ_2 hx2_2 hσ_2 hFσ_2 hi2_0 hi2_1 hi2_2 hm2
      exfalso; omega
    | succ fuel ih =>
      intro x2_2 σ_2 hx2_2 hσ_2 hFσ_2 hi2_0 hi2_1 hi2_2 hm2
      have ih2 := ih
      show V 2 [some (ZR 140), some (ZI n), some (ZI x2_2)] [] 284 σ_2
      refine zr_iload_n (pc := 2) hV dX6_goOn_2 rfl rfl ?_
      refine zr_iload_n (pc := 3) hV dX6_goOn_3 rfl rfl ?_
      refine zr_icmp_ge (pc := 4) hV 22 dX6_goOn_4 (by decide) (by omega) (by omega) (fun c1 => ?_) (fun c1 => ?_)
      · show V 22 [some (ZR 140), some (ZI n), some (ZI x2_2)] [] 284 σ_2
        refine zr_iload_n (pc := 22) hV dX6_goOn_22 rfl rfl ?_
        exact zr_iret (pc := 23) hV dX6_goOn_23 rfl rfl ⟨_, rfl, (by omega), hσ_2, hFσ_2, (by omega), (show zs_cn zs_Rc n σ σ_2 ∧ zs_ps σ_2 ∧ (n < n → ¬ zs_can σ_2 141) from ⟨by have e : n = x2_2 := (by omega); rw [e]; exact hi2_0, hi2_1, fun h => absurd h (by omega)⟩)⟩
      · show V 7 [some (ZR 140), some (ZI n), some (ZI x2_2)] [] 284 σ_2
        refine zr_aload_n (pc := 7) hV dX6_goOn_7 rfl rfl ?_
        refine zr_callVi (pc := 8) hV [] (st := []) (c_X6_step_2 (σ := σ_2) hσ_2 hi2_1) dX6_goOn_8 mX6_81 (zc_k140 zc_s140) (zc_pos zc_s140 rfl) (by decide) (Nat.le_of_ble_eq_true rfl) (Nat.le_refl _) (fun r8 σ8 hr8 pσ8 => ?_)
        obtain ⟨hσ8, hfσ8, pσ8, wσ8⟩ := pσ8
        have hFσ8 := zc_Fc hfσ8 rfl hFσ_2
        refine zr_if_ne (pc := 11) hV 16 dX6_goOn_11 (by decide) (by omega) (fun c2 => ?_) (fun c2 => ?_)
        · show V 16 [some (ZR 140), some (ZI n), some (ZI x2_2)] [] 284 σ8
          have rc8 : zs_Rc x2_2 σ_2 σ8 := ⟨hσ_2, hi2_1, hfσ8, (wσ8.2 (by omega)).1, (wσ8.2 (by omega)).2⟩
          refine zr_iinc (pc := 16) hV [some (ZR 140), some (ZI n), some (ZI (x2_2 + 1))] (x2_2 + 1) dX6_goOn_16 rfl rfl (by decide) rfl rfl ?_
          refine zr_goto (pc := 19) hV 2 dX6_goOn_19 (by decide) ?_
          exact ih2 (x2_2 + 1) σ8 (by omega) hσ8 hFσ8 (zs_cn_s (by omega) hi2_0 rc8) (zs_ps_st rc8) (by omega) (by omega)
        · show V 14 [some (ZR 140), some (ZI n), some (ZI x2_2)] [] 284 σ8
          refine zr_iload_n (pc := 14) hV dX6_goOn_14 rfl rfl ?_
          exact zr_iret (pc := 15) hV dX6_goOn_15 rfl rfl ⟨_, rfl, (by omega), hσ8, hFσ8, (by omega), (show zs_cn zs_Rc x2_2 σ σ8 ∧ zs_ps σ8 ∧ (x2_2 < n → ¬ zs_can σ8 141) from (by have w := wσ8.1 (by omega); have es : σ8 = σ_2 := funext (fun a => funext (fun i => w.2 a i)); rw [es]; exact ⟨hi2_0, hi2_1, fun _ => w.1⟩))⟩
  exact L2 (2000 - (0 : Int) + 1 : Int).toNat 0 σ (by omega) hσ hFσ (zs_cn_0 _ σ) q1 (by omega) (by omega)
