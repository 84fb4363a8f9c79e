set_option maxHeartbeats 800000 in
theorem c_X6_undoStep_2 {σ : zq_S} (hσ : zc_T σ) (row : Int) (krow : zc_kd row = 154) (q0 : zq_hid (zs_rk (σ row))) : zq_C zc_w yX6_undoStep cX6_undoStep 3 (none) 1 22 284 284 [ZR 140, ZR row] σ (zq_pv (fun τ => zc_T τ ∧ zc_Fr [(140, 8), (140, 9), (140, 10), (140, 11), (141, 3), (141, 4), (142, -1), (143, -1), (254, -1)] σ τ ∧ (τ 141 3 = σ row 1 ∧ τ 141 4 = σ row 0 ∧ τ 140 9 = σ row 3 ∧ τ 140 10 = σ row 4 ∧ τ 140 11 = σ row 5) ∧ zq_hid (zs_row τ = zs_undo (σ row) (zs_row σ)))) := by
  refine zq_C_of (by decide) (Nat.le_refl _) (Nat.le_of_ble_eq_true rfl) [some (ZR 140), some (ZR row), none] rfl (fun V hV => ?_)
  have porow := zc_pos krow rfl
  have hFσ := zc_Fr_rf [(140, 8), (140, 9), (140, 10), (140, 11), (141, 3), (141, 4), (142, -1), (143, -1), (254, -1)] σ
  have rk0 := q0.1
  show V 0 [some (ZR 140), some (ZR row), none] [] 284 σ
  refine zr_aload_n (pc := 0) hV dX6_undoStep_0 rfl rfl ?_
  refine zr_bipush (pc := 1) hV 6 dX6_undoStep_1 (by decide) ?_
  refine zr_iald (pc := 3) hV dX6_undoStep_3 (zc_k154 krow) (zc_pos krow rfl) rfl (by omega) ?_
  have t1 := zc_ga154 hσ krow 6
  refine zr_iconst (pc := 4) hV 1 dX6_undoStep_4 rfl ?_
  refine zr_isub (pc := 5) hV dX6_undoStep_5 ?_
  refine zr_istore_n (pc := 6) hV [some (ZR 140), some (ZR row), some (ZI ((σ row 6) - 1))] dX6_undoStep_6 rfl (by decide) rfl rfl ?_
  have L7 : ∀ (fuel : Nat) (x2_7 : Int) (σ_7 : zq_S), ((-1) ≤ x2_7 ∧ x2_7 ≤ 2) → (zc_T σ_7) → (zc_Fr [(140, 8), (140, 9), (140, 10), (140, 11), (141, 3), (141, 4), (142, -1), (143, -1), (254, -1)] σ σ_7) → (zq_hid (zw_un (zs_ua (σ row)) (zs_uf (σ row)) (x2_7 + 1) (zw_cs σ_7 141) = zw_un (zs_ua (σ row)) (zs_uf (σ row)) (σ row 6) (zw_cs σ 141))) → (zq_hid (∀ i, σ_7 254 i = σ 254 i)) → (σ_7 140 8 = σ 140 8) → (x2_7 ≤ σ row 6 - 1) → x2_7 - (-1) < (fuel : Int) → V 7 [some (ZR 140), some (ZR row), some (ZI x2_7)] [] 284 σ_7 := by
    intro fuel
    induction fuel with
    | zero =>
      intro x2_7 σ_7 hx2_7 hσ_7 hFσ_7 hi7_0 hi7_1 hi7_2 hi7_3 hm7
      exfalso; omega
    | succ fuel ih =>
      intro x2_7 σ_7 hx2_7 hσ_7 hFσ_7 hi7_0 hi7_1 hi7_2 hi7_3 hm7
      have ih7 := ih
      show V 7 [some (ZR 140), some (ZR row), some (ZI x2_7)] [] 284 σ_7
      refine zr_iload_n (pc := 7) hV dX6_undoStep_7 rfl rfl ?_
      refine zr_if_lt (pc := 8) hV 42 dX6_undoStep_8 (by decide) (by omega) (fun c2 => ?_) (fun c2 => ?_)
      · show V 42 [some (ZR 140), some (ZR row), some (ZI x2_7)] [] 284 σ_7
        refine zr_aload_n (pc := 42) hV dX6_undoStep_42 rfl rfl ?_
        refine zr_getR (pc := 43) hV 2 141 dX6_undoStep_43 fX6_16 rfl rfl (zc_k140 zc_s140) (zc_pos zc_s140 rfl) (zc_g140_2 hσ_7 zc_s140) (by decide) ?_
        refine zr_aload_n (pc := 46) hV dX6_undoStep_46 rfl rfl ?_
        refine zr_iconst (pc := 47) hV 0 dX6_undoStep_47 rfl ?_
        refine zr_iald (pc := 48) hV dX6_undoStep_48 (zc_k154 krow) (zc_pos krow rfl) rfl (by omega) ?_
        have t3 := zc_ga154 hσ_7 krow 0
        have t4 : σ_7 row 0 = σ row 0 := hFσ_7 _ _ (zc_out_ar krow rfl)
        refine zr_putI (pc := 49) hV 4 dX6_undoStep_49 fX6_85 rfl rfl rfl (zc_k141 zc_s141) (zc_pos zc_s141 rfl) (fun σ49 eσ49 => ?_)
        have hσ49 : zc_T σ49 := zc_u141_4 eσ49 hσ_7 zc_s141 (by omega)
        have hFσ49 := zc_Fw eσ49 zc_s141 rfl hFσ_7
        refine zr_aload_n (pc := 52) hV dX6_undoStep_52 rfl rfl ?_
        refine zr_getR (pc := 53) hV 2 141 dX6_undoStep_53 fX6_16 rfl rfl (zc_k140 zc_s140) (zc_pos zc_s140 rfl) (zc_g140_2 hσ49 zc_s140) (by decide) ?_
        refine zr_aload_n (pc := 56) hV dX6_undoStep_56 rfl rfl ?_
        refine zr_iconst (pc := 57) hV 1 dX6_undoStep_57 rfl ?_
        refine zr_iald (pc := 58) hV dX6_undoStep_58 (zc_k154 krow) (zc_pos krow rfl) rfl (by omega) ?_
        have t5 := zc_ga154 hσ49 krow 1
        have t6 : σ49 row 1 = σ_7 row 1 := by rw [eσ49]; exact zq_up_ne (zc_dk krow zc_s141 rfl)
        have t7 : σ_7 row 1 = σ row 1 := hFσ_7 _ _ (zc_out_ar krow rfl)
        refine zr_putI (pc := 59) hV 3 dX6_undoStep_59 fX6_112 rfl rfl rfl (zc_k141 zc_s141) (zc_pos zc_s141 rfl) (fun σ59 eσ59 => ?_)
        have hσ59 : zc_T σ59 := zc_u141_3 eσ59 hσ49 zc_s141 (by omega)
        have hFσ59 := zc_Fw eσ59 zc_s141 rfl hFσ49
        refine zr_aload_n (pc := 62) hV dX6_undoStep_62 rfl rfl ?_
        refine zr_getR (pc := 63) hV 7 254 dX6_undoStep_63 fX6_28 rfl rfl (zc_k140 zc_s140) (zc_pos zc_s140 rfl) (zc_g140_7 hσ59 zc_s140) (by decide) ?_
        refine zr_aload_n (pc := 66) hV dX6_undoStep_66 rfl rfl ?_
        refine zr_getR (pc := 67) hV 2 141 dX6_undoStep_67 fX6_16 rfl rfl (zc_k140 zc_s140) (zc_pos zc_s140 rfl) (zc_g140_2 hσ59 zc_s140) (by decide) ?_
        refine zr_getI (pc := 70) hV 4 dX6_undoStep_70 fX6_85 rfl rfl (zc_k141 zc_s141) (zc_pos zc_s141 rfl) ?_
        have t8 := zc_g141_4 hσ59 zc_s141
        have t9 : σ59 141 4 = σ49 141 4 := by rw [eσ59]; exact zq_up_ne (by omega)
        have t10 : σ49 141 4 = σ_7 row 0 := by rw [eσ49]; exact zq_up_same _ _ _ _
        refine zr_bipush (pc := 73) hV 63 dX6_undoStep_73 (by decide) ?_
        refine zr_iand (pc := 75) hV dX6_undoStep_75 ?_
        have t11 := zq_and_mask (σ59 141 4) 6 63 64 (by decide) (by decide) (by decide)
        refine zr_aload_n (pc := 76) hV dX6_undoStep_76 rfl rfl ?_
        refine zr_iconst (pc := 77) hV 2 dX6_undoStep_77 rfl ?_
        refine zr_iald (pc := 78) hV dX6_undoStep_78 (zc_k154 krow) (zc_pos krow rfl) rfl (by omega) ?_
        have t12 := zc_ga154 hσ59 krow 2
        have t13 : σ59 row 2 = σ49 row 2 := by rw [eσ59]; exact zq_up_ne (zc_dk krow zc_s141 rfl)
        have t14 : σ49 row 2 = σ_7 row 2 := by rw [eσ49]; exact zq_up_ne (zc_dk krow zc_s141 rfl)
        have t15 : σ_7 row 2 = σ row 2 := hFσ_7 _ _ (zc_out_ar krow rfl)
        refine zr_iast (pc := 79) hV dX6_undoStep_79 (zc_k254 zc_s254) (zc_pos zc_s254 rfl) rfl (by omega) (fun σ79 eσ79 => ?_)
        have hσ79 : zc_T σ79 := zc_ua254 eσ79 hσ59 zc_s254 (by omega)
        have hFσ79 := zc_Fa eσ79 zc_s254 rfl hFσ59
        refine zr_aload_n (pc := 80) hV dX6_undoStep_80 rfl rfl ?_
        refine zr_aload_n (pc := 81) hV dX6_undoStep_81 rfl rfl ?_
        refine zr_iconst (pc := 82) hV 3 dX6_undoStep_82 rfl ?_
        refine zr_iald (pc := 83) hV dX6_undoStep_83 (zc_k154 krow) (zc_pos krow rfl) rfl (by omega) ?_
        have t16 := zc_ga154 hσ79 krow 3
        have t17 : σ79 row 3 = σ59 row 3 := by rw [eσ79]; exact zq_up_ne (zc_dk krow zc_s254 rfl)
        have t18 : σ59 row 3 = σ49 row 3 := by rw [eσ59]; exact zq_up_ne (zc_dk krow zc_s141 rfl)
        have t19 : σ49 row 3 = σ_7 row 3 := by rw [eσ49]; exact zq_up_ne (zc_dk krow zc_s141 rfl)
        have t20 : σ_7 row 3 = σ row 3 := hFσ_7 _ _ (zc_out_ar krow rfl)
        refine zr_putI (pc := 84) hV 9 dX6_undoStep_84 fX6_53 rfl rfl rfl (zc_k140 zc_s140) (zc_pos zc_s140 rfl) (fun σ84 eσ84 => ?_)
        have hσ84 : zc_T σ84 := zc_u140_9 eσ84 hσ79 zc_s140 (by omega)
        have hFσ84 := zc_Fw eσ84 zc_s140 rfl hFσ79
        refine zr_aload_n (pc := 87) hV dX6_undoStep_87 rfl rfl ?_
        refine zr_aload_n (pc := 88) hV dX6_undoStep_88 rfl rfl ?_
        refine zr_iconst (pc := 89) hV 4 dX6_undoStep_89 rfl ?_
        refine zr_iald (pc := 90) hV dX6_undoStep_90 (zc_k154 krow) (zc_pos krow rfl) rfl (by omega) ?_
        have t21 := zc_ga154 hσ84 krow 4
        have t22 : σ84 row 4 = σ79 row 4 := by rw [eσ84]; exact zq_up_ne (zc_dk krow zc_s140 rfl)
        have t23 : σ79 row 4 = σ59 row 4 := by rw [eσ79]; exact zq_up_ne (zc_dk krow zc_s254 rfl)
        have t24 : σ59 row 4 = σ49 row 4 := by rw [eσ59]; exact zq_up_ne (zc_dk krow zc_s141 rfl)
        have t25 : σ49 row 4 = σ_7 row 4 := by rw [eσ49]; exact zq_up_ne (zc_dk krow zc_s141 rfl)
        have t26 : σ_7 row 4 = σ row 4 := hFσ_7 _ _ (zc_out_ar krow rfl)
        refine zr_putI (pc := 91) hV 10 dX6_undoStep_91 fX6_56 rfl rfl rfl (zc_k140 zc_s140) (zc_pos zc_s140 rfl) (fun σ91 eσ91 => ?_)
        have hσ91 : zc_T σ91 := zc_u140_10 eσ91 hσ84 zc_s140 (by omega)
        have hFσ91 := zc_Fw eσ91 zc_s140 rfl hFσ84
        refine zr_aload_n (pc := 94) hV dX6_undoStep_94 rfl rfl ?_
        refine zr_aload_n (pc := 95) hV dX6_undoStep_95 rfl rfl ?_
        refine zr_iconst (pc := 96) hV 5 dX6_undoStep_96 rfl ?_
        refine zr_iald (pc := 97) hV dX6_undoStep_97 (zc_k154 krow) (zc_pos krow rfl) rfl (by omega) ?_
        have t27 := zc_ga154 hσ91 krow 5
        have t28 : σ91 row 5 = σ84 row 5 := by rw [eσ91]; exact zq_up_ne (zc_dk krow zc_s140 rfl)
        have t29 : σ84 row 5 = σ79 row 5 := by rw [eσ84]; exact zq_up_ne (zc_dk krow zc_s140 rfl)
        have t30 : σ79 row 5 = σ59 row 5 := by rw [eσ79]; exact zq_up_ne (zc_dk krow zc_s254 rfl)
        have t31 : σ59 row 5 = σ49 row 5 := by rw [eσ59]; exact zq_up_ne (zc_dk krow zc_s141 rfl)
        have t32 : σ49 row 5 = σ_7 row 5 := by rw [eσ49]; exact zq_up_ne (zc_dk krow zc_s141 rfl)
        have t33 : σ_7 row 5 = σ row 5 := hFσ_7 _ _ (zc_out_ar krow rfl)
        refine zr_putI (pc := 98) hV 11 dX6_undoStep_98 fX6_59 rfl rfl rfl (zc_k140 zc_s140) (zc_pos zc_s140 rfl) (fun σ98 eσ98 => ?_)
        have hσ98 : zc_T σ98 := zc_u140_11 eσ98 hσ91 zc_s140 (by omega)
        have hFσ98 := zc_Fw eσ98 zc_s140 rfl hFσ91
        refine zr_aload_n (pc := 101) hV dX6_undoStep_101 rfl rfl ?_
        refine zr_dup (pc := 102) hV dX6_undoStep_102 (fun _ => rfl) ?_
        refine zr_getI (pc := 103) hV 8 dX6_undoStep_103 fX6_50 rfl rfl (zc_k140 zc_s140) (zc_pos zc_s140 rfl) ?_
        have t34 := zc_g140_8 hσ98 zc_s140
        have t35 : σ98 140 8 = σ91 140 8 := by rw [eσ98]; exact zq_up_ne (by omega)
        have t36 : σ91 140 8 = σ84 140 8 := by rw [eσ91]; exact zq_up_ne (by omega)
        have t37 : σ84 140 8 = σ79 140 8 := by rw [eσ84]; exact zq_up_ne (by omega)
        have t38 : σ79 140 8 = σ59 140 8 := by rw [eσ79]; exact zq_up_ne (zc_dk zc_s140 zc_s254 rfl)
        have t39 : σ59 140 8 = σ49 140 8 := by rw [eσ59]; exact zq_up_ne (zc_dk zc_s140 zc_s141 rfl)
        have t40 : σ49 140 8 = σ_7 140 8 := by rw [eσ49]; exact zq_up_ne (zc_dk zc_s140 zc_s141 rfl)
        refine zr_iconst (pc := 106) hV 1 dX6_undoStep_106 rfl ?_
        refine zr_isub (pc := 107) hV dX6_undoStep_107 ?_
        refine zr_any (pc := 108) hV (fun y108 hy108 jy108 => ?_)
        have wy108 : y108 = zs_w ((σ98 140 8) - 1) := zs_w_any hy108 jy108
        clear jy108
        refine zr_putI (pc := 108) hV 8 dX6_undoStep_108 fX6_50 rfl rfl rfl (zc_k140 zc_s140) (zc_pos zc_s140 rfl) (fun σ108 eσ108 => ?_)
        have hσ108 : zc_T σ108 := zc_u140_8 eσ108 hσ98 zc_s140 (by omega)
        have hFσ108 := zc_Fw eσ108 zc_s140 rfl hFσ98
        have t41 := zc_g140_10 hσ108 zc_s140
        have t42 : σ108 140 10 = σ98 140 10 := by rw [eσ108]; exact zq_up_ne (by omega)
        have t43 : σ98 140 10 = σ91 140 10 := by rw [eσ98]; exact zq_up_ne (by omega)
        have t44 : σ91 140 10 = σ84 row 4 := by rw [eσ91]; exact zq_up_same _ _ _ _
        have t45 := zc_g140_11 hσ108 zc_s140
        have t46 : σ108 140 11 = σ98 140 11 := by rw [eσ108]; exact zq_up_ne (by omega)
        have t47 : σ98 140 11 = σ91 row 5 := by rw [eσ98]; exact zq_up_same _ _ _ _
        have t48 := zc_g140_9 hσ108 zc_s140
        have t49 : σ108 140 9 = σ98 140 9 := by rw [eσ108]; exact zq_up_ne (by omega)
        have t50 : σ98 140 9 = σ91 140 9 := by rw [eσ98]; exact zq_up_ne (by omega)
        have t51 : σ91 140 9 = σ84 140 9 := by rw [eσ91]; exact zq_up_ne (by omega)
        have t52 : σ84 140 9 = σ79 row 3 := by rw [eσ84]; exact zq_up_same _ _ _ _
        have t53 := zc_g141_3 hσ108 zc_s141
        have t54 : σ108 141 3 = σ98 141 3 := by rw [eσ108]; exact zq_up_ne (zc_dk zc_s141 zc_s140 rfl)
        have t55 : σ98 141 3 = σ91 141 3 := by rw [eσ98]; exact zq_up_ne (zc_dk zc_s141 zc_s140 rfl)
        have t56 : σ91 141 3 = σ84 141 3 := by rw [eσ91]; exact zq_up_ne (zc_dk zc_s141 zc_s140 rfl)
        have t57 : σ84 141 3 = σ79 141 3 := by rw [eσ84]; exact zq_up_ne (zc_dk zc_s141 zc_s140 rfl)
        have t58 : σ79 141 3 = σ59 141 3 := by rw [eσ79]; exact zq_up_ne (zc_dk zc_s141 zc_s254 rfl)
        have t59 : σ59 141 3 = σ49 row 1 := by rw [eσ59]; exact zq_up_same _ _ _ _
        have t60 := zc_g141_4 hσ108 zc_s141
        have t61 : σ108 141 4 = σ98 141 4 := by rw [eσ108]; exact zq_up_ne (zc_dk zc_s141 zc_s140 rfl)
        have t62 : σ98 141 4 = σ91 141 4 := by rw [eσ98]; exact zq_up_ne (zc_dk zc_s141 zc_s140 rfl)
        have t63 : σ91 141 4 = σ84 141 4 := by rw [eσ91]; exact zq_up_ne (zc_dk zc_s141 zc_s140 rfl)
        have t64 : σ84 141 4 = σ79 141 4 := by rw [eσ84]; exact zq_up_ne (zc_dk zc_s141 zc_s140 rfl)
        have t65 : σ79 141 4 = σ59 141 4 := by rw [eσ79]; exact zq_up_ne (zc_dk zc_s141 zc_s254 rfl)
        have t66 : σ59 141 4 = σ49 141 4 := by rw [eσ59]; exact zq_up_ne (by omega)
        have t67 : σ49 141 4 = σ_7 row 0 := by rw [eσ49]; exact zq_up_same _ _ _ _
        exact zr_vret (pc := 111) hV dX6_undoStep_111 rfl rfl ⟨rfl, hσ108, hFσ108, (by omega), (show zs_row σ108 = zs_undo (σ row) (zs_row σ) from (zs_row_undo (μ := σ_7) (by have h := hi7_0; unfold zq_hid at h; rw [show x2_7 + 1 = 0 by omega, zw_un_0] at h; exact h) (fun i => by rw [eσ108, zq_up_ne (by omega), eσ98, zq_up_ne (by omega), eσ91, zq_up_ne (by omega), eσ84, zq_up_ne (by omega), eσ79, zq_up_ne (by omega), eσ59, zq_up_ne (by omega), eσ49, zq_up_ne (by omega)]) (fun i => by rw [eσ108, zq_up_ne (by omega), eσ98, zq_up_ne (by omega), eσ91, zq_up_ne (by omega), eσ84, zq_up_ne (by omega), eσ79, zq_up_ne (by omega), eσ59, zq_up_ne (by omega), eσ49, zq_up_ne (by omega)]) (by omega) (by omega) (by rw [eσ108, zq_up_same, wy108, show σ98 140 8 = σ 140 8 by omega]) (by omega) (by omega) (by omega) (fun i => by rw [eσ108, zq_up_ne (by omega), eσ98, zq_up_ne (by omega), eσ91, zq_up_ne (by omega), eσ84, zq_up_ne (by omega), eσ79]; by_cases hc : i = σ row 0; (rw [if_pos hc, hc, show σ row 0 = zq_and (σ59 141 4) 63 by omega, zq_up_same]; omega); (rw [if_neg hc, zq_up_ne (by omega), eσ59, zq_up_ne (by omega), eσ49, zq_up_ne (by omega)]; exact hi7_1 i)) rk0.1))⟩
      · show V 11 [some (ZR 140), some (ZR row), some (ZI x2_7)] [] 284 σ_7
        refine zr_aload_n (pc := 11) hV dX6_undoStep_11 rfl rfl ?_
        refine zr_getR (pc := 12) hV 2 141 dX6_undoStep_12 fX6_16 rfl rfl (zc_k140 zc_s140) (zc_pos zc_s140 rfl) (zc_g140_2 hσ_7 zc_s140) (by decide) ?_
        refine zr_aload_n (pc := 15) hV dX6_undoStep_15 rfl rfl ?_
        refine zr_bipush (pc := 16) hV 7 dX6_undoStep_16 (by decide) ?_
        refine zr_iconst (pc := 18) hV 2 dX6_undoStep_18 rfl ?_
        refine zr_iload_n (pc := 19) hV dX6_undoStep_19 rfl rfl ?_
        refine zr_imul (pc := 20) hV dX6_undoStep_20 ?_
        refine zr_iadd (pc := 21) hV dX6_undoStep_21 ?_
        refine zr_iald (pc := 22) hV dX6_undoStep_22 (zc_k154 krow) (zc_pos krow rfl) rfl (by omega) ?_
        have t68 := zc_ga154 hσ_7 krow (7 + (2 * x2_7))
        have t69 : σ_7 row (7 + (2 * x2_7)) = σ row (7 + (2 * x2_7)) := hFσ_7 _ _ (zc_out_ar krow rfl)
        refine zr_aload_n (pc := 23) hV dX6_undoStep_23 rfl rfl ?_
        refine zr_bipush (pc := 24) hV 7 dX6_undoStep_24 (by decide) ?_
        refine zr_iconst (pc := 26) hV 2 dX6_undoStep_26 rfl ?_
        refine zr_iload_n (pc := 27) hV dX6_undoStep_27 rfl rfl ?_
        refine zr_imul (pc := 28) hV dX6_undoStep_28 ?_
        refine zr_iadd (pc := 29) hV dX6_undoStep_29 ?_
        refine zr_iconst (pc := 30) hV 1 dX6_undoStep_30 rfl ?_
        refine zr_iadd (pc := 31) hV dX6_undoStep_31 ?_
        refine zr_iald (pc := 32) hV dX6_undoStep_32 (zc_k154 krow) (zc_pos krow rfl) rfl (by omega) ?_
        have t70 := zc_ga154 hσ_7 krow ((7 + (2 * x2_7)) + 1)
        have t71 : σ_7 row ((7 + (2 * x2_7)) + 1) = σ row ((7 + (2 * x2_7)) + 1) := hFσ_7 _ _ (zc_out_ar krow rfl)
        have z33 : 0 ≤ σ_7 row (7 + 2 * x2_7) ∧ σ_7 row (7 + 2 * x2_7) < 264 := by rw [hFσ_7 row _ (zc_out_ar krow rfl)]; exact q0.2 x2_7 (by omega) (by omega)
        refine zr_callVv (pc := 33) hV [ZI (σ_7 row (7 + (2 * x2_7))), ZI (σ_7 row ((7 + (2 * x2_7)) + 1))] (st := []) (c_X10_undoChange_2 (σ := σ_7) hσ_7 (σ_7 row (7 + (2 * x2_7))) (σ_7 row ((7 + (2 * x2_7)) + 1)) (by omega) (by omega)) dX6_undoStep_33 mX6_144 (zc_k141 zc_s141) (zc_pos zc_s141 rfl) (by decide) (Nat.le_of_ble_eq_true rfl) (Nat.le_refl _) (fun σ33 pσ33 => ?_)
        obtain ⟨hσ33, hfσ33, pσ33, wσ33⟩ := pσ33
        have hFσ33 := zc_Fc hfσ33 rfl hFσ_7
        refine zr_iinc (pc := 36) hV [some (ZR 140), some (ZR row), some (ZI (x2_7 + (-1)))] (x2_7 + (-1)) dX6_undoStep_36 rfl rfl (by decide) rfl rfl ?_
        refine zr_goto (pc := 39) hV 7 dX6_undoStep_39 (by decide) ?_
        have t72 := zc_g140_8 hσ33 zc_s140
        have t73 : σ33 140 8 = σ_7 140 8 := hfσ33 _ _ (zc_out_at zc_s140 rfl)
        exact ih7 (x2_7 + (-1)) σ33 (by omega) hσ33 hFσ33 (by have w := wσ33; have h := hi7_0; unfold zq_hid at w h ⊢; rw [zw_un_s (by omega)] at h; rw [show x2_7 + (-1) + 1 = x2_7 by omega, w, show σ_7 row (7 + 2 * x2_7) = zs_ua (σ row) x2_7 from hFσ_7 row _ (zc_out_ar krow rfl), show σ_7 row (7 + 2 * x2_7 + 1) = zs_uf (σ row) x2_7 from (by show _ = σ row (8 + 2 * x2_7); rw [show 8 + 2 * x2_7 = 7 + 2 * x2_7 + 1 by omega]; exact hFσ_7 row _ (zc_out_ar krow rfl))]; exact h) (fun i => by rw [hfσ33 254 i (zc_out_ar zc_s254 rfl)]; exact hi7_1 i) (by omega) (by omega) (by omega)
  have t74 := zc_g140_8 hσ zc_s140
  exact L7 (((σ row 6) - 1) - (-1) + 1 : Int).toNat ((σ row 6) - 1) σ (by omega) hσ hFσ (by unfold zq_hid; rw [show σ row 6 - 1 + 1 = σ row 6 by omega]) (fun _ => rfl) (by omega) (by omega) (by omega)
set_option maxHeartbeats 800000 in
theorem c_X6_goBack_2 {σ : zq_S} (hσ : zc_T σ) (n : Int) (q0 : 1 ≤ n ∧ n ≤ 100) (q1 : zq_hid (∀ k, 0 ≤ k → k < σ 140 5 → zs_rk (σ (154 + (σ 140 6 + 99 - k) % 100)))) : zq_C zc_w yX6_goBack cX6_goBack 3 (some .int) 2 44 284 284 [ZR 140, ZI n] σ (zq_pi (fun r τ => zc_T τ ∧ zc_Fr [(140, 5), (140, 6), (140, 8), (140, 9), (140, 10), (140, 11), (140, 13), (140, 14), (141, 3), (141, 4), (142, -1), (143, -1), (254, -1)] σ τ ∧ (True) ∧ zq_hid ((σ 140 5 < n → r = -2 ∧ ∀ a i, τ a i = σ a i) ∧ (n ≤ σ 140 5 → r = σ 140 5 - n ∧ τ 140 5 = σ 140 5 - n ∧ τ 140 6 = (σ 140 6 + 100 - n) % 100 ∧ zs_row τ = zs_U σ n ∧ τ 140 13 = 0 ∧ τ 140 14 = 0)))) := by
  refine zq_C_of (by decide) (Nat.le_refl _) (Nat.le_of_ble_eq_true rfl) [some (ZR 140), some (ZI n), none] rfl (fun V hV => ?_)
  have hFσ := zc_Fr_rf [(140, 5), (140, 6), (140, 8), (140, 9), (140, 10), (140, 11), (140, 13), (140, 14), (141, 3), (141, 4), (142, -1), (143, -1), (254, -1)] σ
  show V 0 [some (ZR 140), some (ZI n), none] [] 284 σ
  refine zr_iload_n (pc := 0) hV dX6_goBack_0 rfl rfl ?_
  refine zr_aload_n (pc := 1) hV dX6_goBack_1 rfl rfl ?_
  refine zr_getI (pc := 2) hV 5 dX6_goBack_2 fX6_65 rfl rfl (zc_k140 zc_s140) (zc_pos zc_s140 rfl) ?_
  have t1 := zc_g140_5 hσ zc_s140
  refine zr_icmp_le (pc := 5) hV 11 dX6_goBack_5 (by decide) (by omega) (by omega) (fun c2 => ?_) (fun c2 => ?_)
  · show V 11 [some (ZR 140), some (ZI n), none] [] 284 σ
    refine zr_iconst (pc := 11) hV 0 dX6_goBack_11 rfl ?_
    refine zr_istore_n (pc := 12) hV [some (ZR 140), some (ZI n), some (ZI 0)] dX6_goBack_12 rfl (by decide) rfl rfl ?_
    have L13 : ∀ (fuel : Nat) (x2_13 : Int) (σ_13 : zq_S), (0 ≤ x2_13 ∧ x2_13 ≤ 100) → (zc_T σ_13) → (zc_Fr [(140, 5), (140, 6), (140, 8), (140, 9), (140, 10), (140, 11), (140, 13), (140, 14), (141, 3), (141, 4), (142, -1), (143, -1), (254, -1)] σ σ_13) → (σ_13 140 5 + x2_13 = σ 140 5) → (σ_13 140 6 = (σ 140 6 + 100 - x2_13) % 100) → (zq_hid (zs_row σ_13 = zs_U σ x2_13)) → (x2_13 ≤ n) → 100 - x2_13 < (fuel : Int) → V 13 [some (ZR 140), some (ZI n), some (ZI x2_13)] [] 284 σ_13 := by
      intro fuel
      induction fuel with
      | zero =>
        intro x2_13 σ_13 hx2_13 hσ_13 hFσ_13 hi13_0 hi13_1 hi13_2 hi13_3 hm13
        exfalso; omega
      | succ fuel ih =>
        intro x2_13 σ_13 hx2_13 hσ_13 hFσ_13 hi13_0 hi13_1 hi13_2 hi13_3 hm13
        have ih13 := ih
        show V 13 [some (ZR 140), some (ZI n), some (ZI x2_13)] [] 284 σ_13
        refine zr_iload_n (pc := 13) hV dX6_goBack_13 rfl rfl ?_
        refine zr_iload_n (pc := 14) hV dX6_goBack_14 rfl rfl ?_
        refine zr_icmp_ge (pc := 15) hV 63 dX6_goBack_15 (by decide) (by omega) (by omega) (fun c3 => ?_) (fun c3 => ?_)
        · show V 63 [some (ZR 140), some (ZI n), some (ZI x2_13)] [] 284 σ_13
          refine zr_aload_n (pc := 63) hV dX6_goBack_63 rfl rfl ?_
          refine zr_callVv (pc := 64) hV [] (st := []) (c_X6_forgetLatest_3 (σ := σ_13) hσ_13) dX6_goBack_64 mX6_68 (zc_k140 zc_s140) (zc_pos zc_s140 rfl) (by decide) (Nat.le_of_ble_eq_true rfl) (Nat.le_refl _) (fun σ64 pσ64 => ?_)
          obtain ⟨hσ64, hfσ64, pσ64⟩ := pσ64
          have hFσ64 := zc_Fc hfσ64 rfl hFσ_13
          have t4 := zc_g140_13 hσ64 zc_s140
          have t5 := zc_g140_14 hσ64 zc_s140
          refine zr_aload_n (pc := 67) hV dX6_goBack_67 rfl rfl ?_
          refine zr_getI (pc := 68) hV 5 dX6_goBack_68 fX6_65 rfl rfl (zc_k140 zc_s140) (zc_pos zc_s140 rfl) ?_
          have t6 := zc_g140_5 hσ64 zc_s140
          have t7 : σ64 140 5 = σ_13 140 5 := hfσ64 _ _ (zc_out_at zc_s140 rfl)
          have t8 := zc_g140_13 hσ64 zc_s140
          have t9 := zc_g140_14 hσ64 zc_s140
          have t10 := zc_g140_5 hσ64 zc_s140
          have t11 : σ64 140 5 = σ_13 140 5 := hfσ64 _ _ (zc_out_at zc_s140 rfl)
          have t12 := zc_g140_6 hσ64 zc_s140
          have t13 : σ64 140 6 = σ_13 140 6 := hfσ64 _ _ (zc_out_at zc_s140 rfl)
          exact zr_iret (pc := 71) hV dX6_goBack_71 rfl rfl ⟨_, rfl, (by omega), hσ64, hFσ64, trivial, (show (σ 140 5 < n → (σ64 140 5) = -2 ∧ ∀ a i, σ64 a i = σ a i) ∧ (n ≤ σ 140 5 → (σ64 140 5) = σ 140 5 - n ∧ σ64 140 5 = σ 140 5 - n ∧ σ64 140 6 = (σ 140 6 + 100 - n) % 100 ∧ zs_row σ64 = zs_U σ n ∧ σ64 140 13 = 0 ∧ σ64 140 14 = 0) from ⟨fun h => absurd h (by omega), fun _ => ⟨by omega, by omega, by omega, by have h := hi13_2; unfold zq_hid at h; rw [(zs_row_c (fun i => hfσ64 142 i (zc_out_ar zc_s142 rfl)) (fun i => hfσ64 143 i (zc_out_ar zc_s143 rfl)) (hfσ64 141 3 (zc_out_at zc_s141 rfl)) (hfσ64 141 4 (zc_out_at zc_s141 rfl)) (hfσ64 140 8 (zc_out_at zc_s140 rfl)) (hfσ64 140 9 (zc_out_at zc_s140 rfl)) (hfσ64 140 10 (zc_out_at zc_s140 rfl)) (hfσ64 140 11 (zc_out_at zc_s140 rfl)) (fun i => hfσ64 254 i (zc_out_ar zc_s254 rfl))), h, show n = x2_13 by omega], by omega, by omega⟩⟩)⟩
        · show V 18 [some (ZR 140), some (ZI n), some (ZI x2_13)] [] 284 σ_13
          refine zr_aload_n (pc := 18) hV dX6_goBack_18 rfl rfl ?_
          refine zr_aload_n (pc := 19) hV dX6_goBack_19 rfl rfl ?_
          refine zr_getI (pc := 20) hV 6 dX6_goBack_20 fX6_94 rfl rfl (zc_k140 zc_s140) (zc_pos zc_s140 rfl) ?_
          have t14 := zc_g140_6 hσ_13 zc_s140
          refine zr_bipush (pc := 23) hV 100 dX6_goBack_23 (by decide) ?_
          refine zr_iadd (pc := 25) hV dX6_goBack_25 ?_
          refine zr_iconst (pc := 26) hV 1 dX6_goBack_26 rfl ?_
          refine zr_isub (pc := 27) hV dX6_goBack_27 ?_
          refine zr_bipush (pc := 28) hV 100 dX6_goBack_28 (by decide) ?_
          refine zr_irem (pc := 30) hV dX6_goBack_30 ⟨by decide, by decide⟩ (by omega) ?_
          have t15 := zq_rem_c (x := ((σ_13 140 6) + 100) - 1) 100 (by decide) (by omega)
          refine zr_putI (pc := 31) hV 6 dX6_goBack_31 fX6_94 rfl rfl rfl (zc_k140 zc_s140) (zc_pos zc_s140 rfl) (fun σ31 eσ31 => ?_)
          have hσ31 : zc_T σ31 := zc_u140_6 eσ31 hσ_13 zc_s140 (by omega)
          have hFσ31 := zc_Fw eσ31 zc_s140 rfl hFσ_13
          refine zr_aload_n (pc := 34) hV dX6_goBack_34 rfl rfl ?_
          refine zr_dup (pc := 35) hV dX6_goBack_35 (fun _ => rfl) ?_
          refine zr_getI (pc := 36) hV 5 dX6_goBack_36 fX6_65 rfl rfl (zc_k140 zc_s140) (zc_pos zc_s140 rfl) ?_
          have t16 := zc_g140_5 hσ31 zc_s140
          have t17 : σ31 140 5 = σ_13 140 5 := by rw [eσ31]; exact zq_up_ne (by omega)
          refine zr_iconst (pc := 39) hV 1 dX6_goBack_39 rfl ?_
          refine zr_isub (pc := 40) hV dX6_goBack_40 ?_
          refine zr_putI (pc := 41) hV 5 dX6_goBack_41 fX6_65 rfl rfl rfl (zc_k140 zc_s140) (zc_pos zc_s140 rfl) (fun σ41 eσ41 => ?_)
          have hσ41 : zc_T σ41 := zc_u140_5 eσ41 hσ31 zc_s140 (by omega)
          have hFσ41 := zc_Fw eσ41 zc_s140 rfl hFσ31
          refine zr_aload_n (pc := 44) hV dX6_goBack_44 rfl rfl ?_
          refine zr_aload_n (pc := 45) hV dX6_goBack_45 rfl rfl ?_
          refine zr_getR (pc := 46) hV 4 153 dX6_goBack_46 fX6_25 rfl rfl (zc_k140 zc_s140) (zc_pos zc_s140 rfl) (zc_g140_4 hσ41 zc_s140) (by decide) ?_
          refine zr_aload_n (pc := 49) hV dX6_goBack_49 rfl rfl ?_
          refine zr_getI (pc := 50) hV 6 dX6_goBack_50 fX6_94 rfl rfl (zc_k140 zc_s140) (zc_pos zc_s140 rfl) ?_
          have t18 := zc_g140_6 hσ41 zc_s140
          have t19 : σ41 140 6 = σ31 140 6 := by rw [eσ41]; exact zq_up_ne (by omega)
          have t20 : σ31 140 6 = zq_rem (((σ_13 140 6) + 100) - 1) 100 := by rw [eσ31]; exact zq_up_same _ _ _ _
          have ga53 : σ41 153 (σ41 140 6) = 154 + (σ41 140 6) := zc_ga153 hσ41 zc_s153 (σ41 140 6) (by omega) (by omega)
          refine zr_aald (pc := 53) hV dX6_goBack_53 (zc_k153 zc_s153) (Or.inr rfl) (zc_pos zc_s153 rfl) rfl (by omega) (by omega) ?_
          obtain ⟨o53, eo53⟩ : ∃ o, σ41 153 (σ41 140 6) = o := ⟨_, rfl⟩
          rw [eo53] at ga53 ⊢
          have ko53 : zc_kd o53 = 154 := ga53 ▸ zc_e154 (by omega) (by omega)
          have po53 := zc_pos ko53 rfl
          show V 54 [some (ZR 140), some (ZI n), some (ZI x2_13)] [ZR o53, ZR 140] 284 σ41
          have e41 : σ41 o53 = σ (154 + (σ 140 6 + 99 - x2_13) % 100) := funext (fun i => by rw [show (154 + (σ 140 6 + 99 - x2_13) % 100) = o53 by omega]; exact hFσ41 o53 i (zc_out_ar ko53 rfl))
          have rk41 : zq_hid (zs_rk (σ41 o53)) := by unfold zq_hid; rw [e41]; exact q1 x2_13 (by omega) (by omega)
          have er41 : zs_row σ41 = zs_row σ_13 := (zs_row_c (fun i => by rw [eσ41, zq_up_ne (by omega), eσ31, zq_up_ne (by omega)]) (fun i => by rw [eσ41, zq_up_ne (by omega), eσ31, zq_up_ne (by omega)]) (by rw [eσ41, zq_up_ne (by omega), eσ31, zq_up_ne (by omega)]) (by rw [eσ41, zq_up_ne (by omega), eσ31, zq_up_ne (by omega)]) (by rw [eσ41, zq_up_ne (by omega), eσ31, zq_up_ne (by omega)]) (by rw [eσ41, zq_up_ne (by omega), eσ31, zq_up_ne (by omega)]) (by rw [eσ41, zq_up_ne (by omega), eσ31, zq_up_ne (by omega)]) (by rw [eσ41, zq_up_ne (by omega), eσ31, zq_up_ne (by omega)]) (fun i => by rw [eσ41, zq_up_ne (by omega), eσ31, zq_up_ne (by omega)]))
          refine zr_callVv (pc := 54) hV [ZR o53] (st := []) (c_X6_undoStep_2 (σ := σ41) hσ41 o53 ko53 rk41) dX6_goBack_54 mX6_141 (zc_k140 zc_s140) (zc_pos zc_s140 rfl) (by decide) (Nat.le_of_ble_eq_true rfl) (Nat.le_refl _) (fun σ54 pσ54 => ?_)
          obtain ⟨hσ54, hfσ54, pσ54, wσ54⟩ := pσ54
          have hFσ54 := zc_Fc hfσ54 rfl hFσ41
          have t21 := zc_ga154 hσ41 ko53 0
          have t22 : σ41 o53 0 = σ31 o53 0 := by rw [eσ41]; exact zq_up_ne (zc_dk ko53 zc_s140 rfl)
          have t23 : σ31 o53 0 = σ_13 o53 0 := by rw [eσ31]; exact zq_up_ne (zc_dk ko53 zc_s140 rfl)
          have t24 : σ_13 o53 0 = σ o53 0 := hFσ_13 _ _ (zc_out_ar ko53 rfl)
          have t25 := zc_ga154 hσ41 ko53 1
          have t26 : σ41 o53 1 = σ31 o53 1 := by rw [eσ41]; exact zq_up_ne (zc_dk ko53 zc_s140 rfl)
          have t27 : σ31 o53 1 = σ_13 o53 1 := by rw [eσ31]; exact zq_up_ne (zc_dk ko53 zc_s140 rfl)
          have t28 : σ_13 o53 1 = σ o53 1 := hFσ_13 _ _ (zc_out_ar ko53 rfl)
          have t29 := zc_ga154 hσ41 ko53 3
          have t30 : σ41 o53 3 = σ31 o53 3 := by rw [eσ41]; exact zq_up_ne (zc_dk ko53 zc_s140 rfl)
          have t31 : σ31 o53 3 = σ_13 o53 3 := by rw [eσ31]; exact zq_up_ne (zc_dk ko53 zc_s140 rfl)
          have t32 : σ_13 o53 3 = σ o53 3 := hFσ_13 _ _ (zc_out_ar ko53 rfl)
          have t33 := zc_ga154 hσ41 ko53 4
          have t34 : σ41 o53 4 = σ31 o53 4 := by rw [eσ41]; exact zq_up_ne (zc_dk ko53 zc_s140 rfl)
          have t35 : σ31 o53 4 = σ_13 o53 4 := by rw [eσ31]; exact zq_up_ne (zc_dk ko53 zc_s140 rfl)
          have t36 : σ_13 o53 4 = σ o53 4 := hFσ_13 _ _ (zc_out_ar ko53 rfl)
          have t37 := zc_ga154 hσ41 ko53 5
          have t38 : σ41 o53 5 = σ31 o53 5 := by rw [eσ41]; exact zq_up_ne (zc_dk ko53 zc_s140 rfl)
          have t39 : σ31 o53 5 = σ_13 o53 5 := by rw [eσ31]; exact zq_up_ne (zc_dk ko53 zc_s140 rfl)
          have t40 : σ_13 o53 5 = σ o53 5 := hFσ_13 _ _ (zc_out_ar ko53 rfl)
          have t41 := zc_g140_10 hσ54 zc_s140
          have t42 := zc_g140_11 hσ54 zc_s140
          have t43 := zc_g140_9 hσ54 zc_s140
          have t44 := zc_g141_3 hσ54 zc_s141
          have t45 := zc_g141_4 hσ54 zc_s141
          refine zr_iinc (pc := 57) hV [some (ZR 140), some (ZI n), some (ZI (x2_13 + 1))] (x2_13 + 1) dX6_goBack_57 rfl rfl (by decide) rfl rfl ?_
          refine zr_goto (pc := 60) hV 13 dX6_goBack_60 (by decide) ?_
          have t46 := zc_g140_5 hσ54 zc_s140
          have t47 : σ54 140 5 = σ41 140 5 := hfσ54 _ _ (zc_out_at zc_s140 rfl)
          have t48 : σ41 140 5 = (σ31 140 5) - 1 := by rw [eσ41]; exact zq_up_same _ _ _ _
          have t49 := zc_g140_6 hσ54 zc_s140
          have t50 : σ54 140 6 = σ41 140 6 := hfσ54 _ _ (zc_out_at zc_s140 rfl)
          have t51 : σ41 140 6 = σ31 140 6 := by rw [eσ41]; exact zq_up_ne (by omega)
          have t52 : σ31 140 6 = zq_rem (((σ_13 140 6) + 100) - 1) 100 := by rw [eσ31]; exact zq_up_same _ _ _ _
          exact ih13 (x2_13 + 1) σ54 (by omega) hσ54 hFσ54 (by omega) (by omega) (by have w := wσ54; have h := hi13_2; unfold zq_hid at w h ⊢; rw [w, er41, h, zs_U_s (by omega), e41]) (by omega) (by omega)
    have t53 := zc_g140_5 hσ zc_s140
    have t54 := zc_g140_6 hσ zc_s140
    exact L13 (100 - (0 : Int) + 1 : Int).toNat 0 σ (by omega) hσ hFσ (by omega) (by omega) (zs_U_0 σ).symm (by omega) (by omega)
  · show V 8 [some (ZR 140), some (ZI n), none] [] 284 σ
    refine zr_bipush (pc := 8) hV (-2) dX6_goBack_8 (by decide) ?_
    have t55 := zc_g140_13 hσ zc_s140
    have t56 := zc_g140_14 hσ zc_s140
    have t57 := zc_g140_5 hσ zc_s140
    have t58 := zc_g140_6 hσ zc_s140
    exact zr_iret (pc := 10) hV dX6_goBack_10 rfl rfl ⟨_, rfl, ⟨by decide, by decide⟩, hσ, hFσ, trivial, (show (σ 140 5 < n → ((-2) : Int) = -2 ∧ ∀ a i, σ a i = σ a i) ∧ (n ≤ σ 140 5 → ((-2) : Int) = σ 140 5 - n ∧ σ 140 5 = σ 140 5 - n ∧ σ 140 6 = (σ 140 6 + 100 - n) % 100 ∧ zs_row σ = zs_U σ n ∧ σ 140 13 = 0 ∧ σ 140 14 = 0) from ⟨fun _ => ⟨rfl, fun _ _ => rfl⟩, fun h => absurd h (by omega)⟩)⟩
set_option maxHeartbeats 800000 in
theorem c_X10_copyOf_2 {σ : zq_S} (hσ : zc_T σ)   : zq_C zc_w yX10_copyOf cX10_copyOf 2 (none) 1 60 284 284 [ZR 147, ZR 141] σ (zq_pv (fun τ => zc_T τ ∧ zc_Fr [(147, 0), (147, 3), (147, 4), (148, -1), (149, -1)] σ τ ∧ (τ 147 3 = σ 141 3 ∧ τ 147 4 = σ 141 4 ∧ τ 147 0 = σ 141 0) ∧ zq_hid (∀ i, 0 ≤ i → i ≤ 265 → zw_cs τ 147 i = zw_cs σ 141 i))) := by
  refine zq_C_of (by decide) (Nat.le_refl _) (Nat.le_of_ble_eq_true rfl) [some (ZR 147), some (ZR 141)] rfl (fun V hV => ?_)
  have hFσ := zc_Fr_rf [(147, 0), (147, 3), (147, 4), (148, -1), (149, -1)] σ
  show V 0 [some (ZR 147), some (ZR 141)] [] 284 σ
  refine zr_aload_n (pc := 0) hV dX10_copyOf_0 rfl rfl ?_
  refine zr_getR (pc := 1) hV 1 142 dX10_copyOf_1 fX10_11 rfl rfl (zc_k141 zc_s141) (zc_pos zc_s141 rfl) (zc_g141_1 hσ zc_s141) (by decide) ?_
  refine zr_iconst (pc := 4) hV 0 dX10_copyOf_4 rfl ?_
  refine zr_aload_n (pc := 5) hV dX10_copyOf_5 rfl rfl ?_
  refine zr_getR (pc := 6) hV 1 148 dX10_copyOf_6 fX10_11 rfl rfl (zc_k147 zc_s147) (zc_pos zc_s147 rfl) (zc_g147_1 hσ zc_s147) (by decide) ?_
  refine zr_iconst (pc := 9) hV 0 dX10_copyOf_9 rfl ?_
  refine zr_bipush (pc := 10) hV 8 dX10_copyOf_10 (by decide) ?_
  refine zr_copy (pc := 12) hV dX10_copyOf_12 lX10_42 lcp_nat lcp_stat lcp_ini (zc_k142 zc_s142) (zc_k148 zc_s148) (zc_pos zc_s142 rfl) (zc_pos zc_s148 rfl) rfl rfl (by omega) (by omega) (by omega) rfl rfl (fun σ12 eσ12 => ?_)
  have hσ12 : zc_T σ12 := zc_Tcell eσ12 hσ zc_s148 (fun i => by split; exact zc_ga142 hσ zc_s142 _; exact zc_ga148 hσ zc_s148 _)
  have hFσ12 := zc_Fcell eσ12 zc_s148 rfl hFσ
  refine zr_aload_n (pc := 15) hV dX10_copyOf_15 rfl rfl ?_
  refine zr_getR (pc := 16) hV 2 143 dX10_copyOf_16 fX10_15 rfl rfl (zc_k141 zc_s141) (zc_pos zc_s141 rfl) (zc_g141_2 hσ12 zc_s141) (by decide) ?_
  refine zr_iconst (pc := 19) hV 0 dX10_copyOf_19 rfl ?_
  refine zr_aload_n (pc := 20) hV dX10_copyOf_20 rfl rfl ?_
  refine zr_getR (pc := 21) hV 2 149 dX10_copyOf_21 fX10_15 rfl rfl (zc_k147 zc_s147) (zc_pos zc_s147 rfl) (zc_g147_2 hσ12 zc_s147) (by decide) ?_
  refine zr_iconst (pc := 24) hV 0 dX10_copyOf_24 rfl ?_
  refine zr_sipush (pc := 25) hV 256 dX10_copyOf_25 (by decide) ?_
  refine zr_copy (pc := 28) hV dX10_copyOf_28 lX10_42 lcp_nat lcp_stat lcp_ini (zc_k143 zc_s143) (zc_k149 zc_s149) (zc_pos zc_s143 rfl) (zc_pos zc_s149 rfl) rfl rfl (by omega) (by omega) (by omega) rfl rfl (fun σ28 eσ28 => ?_)
  have hσ28 : zc_T σ28 := zc_Tcell eσ28 hσ12 zc_s149 (fun i => by split; exact zc_ga143 hσ12 zc_s143 _; exact zc_ga149 hσ12 zc_s149 _)
  have hFσ28 := zc_Fcell eσ28 zc_s149 rfl hFσ12
  refine zr_aload_n (pc := 31) hV dX10_copyOf_31 rfl rfl ?_
  refine zr_aload_n (pc := 32) hV dX10_copyOf_32 rfl rfl ?_
  refine zr_getI (pc := 33) hV 3 dX10_copyOf_33 fX10_35 rfl rfl (zc_k141 zc_s141) (zc_pos zc_s141 rfl) ?_
  have t1 := zc_g141_3 hσ28 zc_s141
  have t2 : σ28 141 3 = σ12 141 3 := by rw [eσ28]; exact zc_cell_ne (zc_dk zc_s141 zc_s149 rfl)
  have t3 : σ12 141 3 = σ 141 3 := by rw [eσ12]; exact zc_cell_ne (zc_dk zc_s141 zc_s148 rfl)
  refine zr_putI (pc := 36) hV 3 dX10_copyOf_36 fX10_35 rfl rfl rfl (zc_k147 zc_s147) (zc_pos zc_s147 rfl) (fun σ36 eσ36 => ?_)
  have hσ36 : zc_T σ36 := zc_u147_3 eσ36 hσ28 zc_s147 (by omega)
  have hFσ36 := zc_Fw eσ36 zc_s147 rfl hFσ28
  refine zr_aload_n (pc := 39) hV dX10_copyOf_39 rfl rfl ?_
  refine zr_aload_n (pc := 40) hV dX10_copyOf_40 rfl rfl ?_
  refine zr_getI (pc := 41) hV 4 dX10_copyOf_41 fX10_39 rfl rfl (zc_k141 zc_s141) (zc_pos zc_s141 rfl) ?_
  have t4 := zc_g141_4 hσ36 zc_s141
  have t5 : σ36 141 4 = σ28 141 4 := by rw [eσ36]; exact zq_up_ne (zc_dk zc_s141 zc_s147 rfl)
  have t6 : σ28 141 4 = σ12 141 4 := by rw [eσ28]; exact zc_cell_ne (zc_dk zc_s141 zc_s149 rfl)
  have t7 : σ12 141 4 = σ 141 4 := by rw [eσ12]; exact zc_cell_ne (zc_dk zc_s141 zc_s148 rfl)
  refine zr_putI (pc := 44) hV 4 dX10_copyOf_44 fX10_39 rfl rfl rfl (zc_k147 zc_s147) (zc_pos zc_s147 rfl) (fun σ44 eσ44 => ?_)
  have hσ44 : zc_T σ44 := zc_u147_4 eσ44 hσ36 zc_s147 (by omega)
  have hFσ44 := zc_Fw eσ44 zc_s147 rfl hFσ36
  refine zr_aload_n (pc := 47) hV dX10_copyOf_47 rfl rfl ?_
  refine zr_aload_n (pc := 48) hV dX10_copyOf_48 rfl rfl ?_
  refine zr_getI (pc := 49) hV 0 dX10_copyOf_49 fX10_48 rfl rfl (zc_k141 zc_s141) (zc_pos zc_s141 rfl) ?_
  have t8 := zc_g141_0 hσ44 zc_s141
  have t9 : σ44 141 0 = σ36 141 0 := by rw [eσ44]; exact zq_up_ne (zc_dk zc_s141 zc_s147 rfl)
  have t10 : σ36 141 0 = σ28 141 0 := by rw [eσ36]; exact zq_up_ne (zc_dk zc_s141 zc_s147 rfl)
  have t11 : σ28 141 0 = σ12 141 0 := by rw [eσ28]; exact zc_cell_ne (zc_dk zc_s141 zc_s149 rfl)
  have t12 : σ12 141 0 = σ 141 0 := by rw [eσ12]; exact zc_cell_ne (zc_dk zc_s141 zc_s148 rfl)
  refine zr_putI (pc := 52) hV 0 dX10_copyOf_52 fX10_48 rfl rfl rfl (zc_k147 zc_s147) (zc_pos zc_s147 rfl) (fun σ52 eσ52 => ?_)
  have hσ52 : zc_T σ52 := zc_u147_0 eσ52 hσ44 zc_s147 (by omega)
  have hFσ52 := zc_Fw eσ52 zc_s147 rfl hFσ44
  have t13 := zc_g147_0 hσ52 zc_s147
  have t14 : σ52 147 0 = σ44 141 0 := by rw [eσ52]; exact zq_up_same _ _ _ _
  have t15 := zc_g147_3 hσ52 zc_s147
  have t16 : σ52 147 3 = σ44 147 3 := by rw [eσ52]; exact zq_up_ne (by omega)
  have t17 : σ44 147 3 = σ36 147 3 := by rw [eσ44]; exact zq_up_ne (by omega)
  have t18 : σ36 147 3 = σ28 141 3 := by rw [eσ36]; exact zq_up_same _ _ _ _
  have t19 := zc_g147_4 hσ52 zc_s147
  have t20 : σ52 147 4 = σ44 147 4 := by rw [eσ52]; exact zq_up_ne (by omega)
  have t21 : σ44 147 4 = σ36 141 4 := by rw [eσ44]; exact zq_up_same _ _ _ _
  exact zr_vret (pc := 55) hV dX10_copyOf_55 rfl rfl ⟨rfl, hσ52, hFσ52, (by omega), (show ∀ i, 0 ≤ i → i ≤ 265 → zw_cs σ52 147 i = zw_cs σ 141 i from (fun i i0 i1 => by by_cases c1 : i < 8; (rw [zw_cs_r (a := 148) rfl c1, zw_cs_r (a := 142) rfl c1, eσ52, zq_up_ne (by omega), eσ44, zq_up_ne (by omega), eσ36, zq_up_ne (by omega), eσ28, zc_cell_ne (by omega), eσ12, zq_cell_s, if_pos (by omega), show 0 + (i - 0) = i by omega]); by_cases c2 : i < 264; (rw [zw_cs_m (a := 149) rfl (by omega) c2, zw_cs_m (a := 143) rfl (by omega) c2, eσ52, zq_up_ne (by omega), eσ44, zq_up_ne (by omega), eσ36, zq_up_ne (by omega), eσ28, zq_cell_s, if_pos (by omega), show 0 + (i - 8 - 0) = i - 8 by omega, eσ12, zc_cell_ne (by omega)]); by_cases c3 : i = 264; (rw [c3, zw_cs_z, zw_cs_z]; omega); (rw [show i = 265 by omega, zw_cs_p, zw_cs_p]; omega)))⟩
set_option maxHeartbeats 800000 in
theorem c_X6_tryStep_2 {σ : zq_S} (hσ : zc_T σ)  (q0 : zq_hid (zs_pt σ)) : zq_C zc_w yX6_tryStep cX6_tryStep 3 (some .boolean) 5 111 284 284 [ZR 140] σ (zq_pi (fun r τ => zc_T τ ∧ zc_Fr [(147, 3), (147, 4), (147, 6), (148, -1), (149, -1), (150, -1), (151, -1), (152, -1)] σ τ ∧ ((0 ≤ r ∧ r ≤ 1)) ∧ zq_hid ((r = 0 → ¬ zs_can σ 147 ∧ ∀ a i, τ a i = σ a i) ∧ (r = 1 → zs_can σ 147 ∧ zs_tr σ τ (zs_oa σ 147) (zs_bt σ 147))))) := by
  refine zq_C_of (by decide) (Nat.le_refl _) (Nat.le_of_ble_eq_true rfl) [some (ZR 140), none, none] rfl (fun V hV => ?_)
  have hFσ := zc_Fr_rf [(147, 3), (147, 4), (147, 6), (148, -1), (149, -1), (150, -1), (151, -1), (152, -1)] σ
  have okp : 0 ≤ σ 147 4 ∧ σ 147 4 ≤ 63 := by have z := q0.2.2.2.2.2.1; rw [zw_cs_p] at z; exact z
  have am := zq_and_mask (σ 147 4) 6 63 64 (by decide) (by decide) (by decide)
  have ep : (zq_and (σ 147 4) 63) = σ 147 4 := by omega
  have c139 := (q0.1 (zq_and (σ 147 4) 63) (by omega) (by omega)).1
  show V 0 [some (ZR 140), none, none] [] 284 σ
  refine zr_aload_n (pc := 0) hV dX6_tryStep_0 rfl rfl ?_
  refine zr_getR (pc := 1) hV 1 139 dX6_tryStep_1 fX6_36 rfl rfl (zc_k140 zc_s140) (zc_pos zc_s140 rfl) (zc_g140_1 hσ zc_s140) (by decide) ?_
  refine zr_aload_n (pc := 4) hV dX6_tryStep_4 rfl rfl ?_
  refine zr_getR (pc := 5) hV 3 147 dX6_tryStep_5 fX6_20 rfl rfl (zc_k140 zc_s140) (zc_pos zc_s140 rfl) (zc_g140_3 hσ zc_s140) (by decide) ?_
  refine zr_getI (pc := 8) hV 4 dX6_tryStep_8 fX6_85 rfl rfl (zc_k147 zc_s147) (zc_pos zc_s147 rfl) ?_
  have t1 := zc_g147_4 hσ zc_s147
  refine zr_bipush (pc := 11) hV 63 dX6_tryStep_11 (by decide) ?_
  refine zr_iand (pc := 13) hV dX6_tryStep_13 ?_
  have t2 := zq_and_mask (σ 147 4) 6 63 64 (by decide) (by decide) (by decide)
  refine zr_iald (pc := 14) hV dX6_tryStep_14 (zc_k139 zc_s139) (zc_pos zc_s139 rfl) rfl (by omega) ?_
  have t3 := zc_ga139 hσ zc_s139 (zq_and (σ 147 4) 63)
  refine zr_istore_n (pc := 15) hV [some (ZR 140), some (ZI (σ 139 (zq_and (σ 147 4) 63))), none] dX6_tryStep_15 rfl (by decide) rfl rfl ?_
  refine zr_aload_n (pc := 16) hV dX6_tryStep_16 rfl rfl ?_
  refine zr_getR (pc := 17) hV 0 3 dX6_tryStep_17 fX6_32 rfl rfl (zc_k140 zc_s140) (zc_pos zc_s140 rfl) (zc_g140_0 hσ zc_s140) (by decide) ?_
  refine zr_iload_n (pc := 20) hV dX6_tryStep_20 rfl rfl ?_
  have t4 := zc_g147_4 hσ zc_s147
  refine zr_callVr (pc := 21) hV [ZI (σ 139 (zq_and (σ 147 4) 63))] (st := []) (c_X9_orderOf_2 (σ := σ) hσ (σ 139 (zq_and (σ 147 4) 63)) (by omega)) dX6_tryStep_21 mX6_88 (zc_k3 zc_s3) (zc_pos zc_s3 rfl) (by decide) (Nat.le_of_ble_eq_true rfl) (Nat.le_refl _) (fun r21 pr21 => ?_)
  refine zr_astore_nQ (pc := 24) hV [some (ZR 140), some (ZI (σ 139 (zq_and (σ 147 4) 63))), some (zq_nr r21)] dX6_tryStep_24 rfl (by decide) rfl rfl ?_
  refine zr_aload_nQ (pc := 25) hV dX6_tryStep_25 rfl rfl ?_
  by_cases c5 : r21 < 0
  · rw [zq_nr_n c5]
    refine zr_ifnonnullN (pc := 26) hV dX6_tryStep_26 ?_
    show V 29 [some (ZR 140), some (ZI (σ 139 (zq_and (σ 147 4) 63))), some (ZN)] [] 284 σ
    refine zr_iconst (pc := 29) hV 0 dX6_tryStep_29 rfl ?_
    exact zr_zret (pc := 30) hV dX6_tryStep_30 rfl rfl (by omega) ⟨_, rfl, ⟨by decide, by decide⟩, hσ, hFσ, (by omega), (show ((0 : Int) = 0 → ¬ zs_can σ 147 ∧ ∀ a i, σ a i = σ a i) ∧ ((0 : Int) = 1 → zs_can σ 147 ∧ zs_tr σ σ (zs_oa σ 147) (zs_bt σ 147)) from ⟨fun _ => ⟨fun h => (pr21.2.2 (by omega)) (by unfold zs_can zs_bt at h; rw [← ep] at h; exact h), fun _ _ => rfl⟩, fun h => absurd h (by decide)⟩)⟩
  · rw [zq_nr_p c5]
    have kr21 : zc_kd r21 = 4 := pr21.1 (by omega)
    have por21 := zc_pos kr21 rfl
    refine zr_ifnonnull (pc := 26) hV 31 dX6_tryStep_26 (by decide) ?_
    show V 31 [some (ZR 140), some (ZI (σ 139 (zq_and (σ 147 4) 63))), some (ZR r21)] [] 284 σ
    have own := (pr21.2.1 (by omega))
    have og : zs_og σ r21 (σ 139 (zq_and (σ 147 4) 63)) (σ 147 0) := by rw [own.2]; exact (q0.1 _ (by omega) (by omega)).2 own.1
    refine zr_aload_n (pc := 31) hV dX6_tryStep_31 rfl rfl ?_
    refine zr_getR (pc := 32) hV 3 147 dX6_tryStep_32 fX6_20 rfl rfl (zc_k140 zc_s140) (zc_pos zc_s140 rfl) (zc_g140_3 hσ zc_s140) (by decide) ?_
    refine zr_aload_n (pc := 35) hV dX6_tryStep_35 rfl rfl ?_
    refine zr_iload_n (pc := 36) hV dX6_tryStep_36 rfl rfl ?_
    have t6 := zc_g147_4 hσ zc_s147
    have t7 := zc_g147_0 hσ zc_s147
    have t8 := zc_g147_4 hσ zc_s147
    have t9 := zc_g147_0 hσ zc_s147
    refine zr_callVv (pc := 37) hV [ZR r21, ZI (σ 139 (zq_and (σ 147 4) 63))] (st := []) (c_X10_perform_t2 (σ := σ) hσ r21 kr21 (σ 139 (zq_and (σ 147 4) 63)) (by omega) og.1 og.2.1 q0.2) dX6_tryStep_37 mX6_101 (zc_k147 zc_s147) (zc_pos zc_s147 rfl) (by decide) (Nat.le_of_ble_eq_true rfl) (Nat.le_refl _) (fun σ37 pσ37 => ?_)
    obtain ⟨hσ37, hfσ37, pσ37, wσ37⟩ := pσ37
    have hFσ37 := zc_Fc hfσ37 rfl hFσ
    have t10 := zc_g147_0 hσ zc_s147
    have t11 := zc_g147_4 hσ zc_s147
    have t12 := zc_g4_4 hσ kr21
    have t13 := zc_g4_5 hσ kr21
    have t14 := zc_g4_6 hσ kr21
    have ebt : σ 139 (zq_and (σ 147 4) 63) = zs_bt σ 147 := by unfold zs_bt; rw [ep]
    have eoa : r21 = zs_oa σ 147 := by unfold zs_oa; rw [← ebt]; exact own.2
    have can : zs_can σ 147 := by unfold zs_can; rw [← ebt]; exact own.1
    refine zr_iconst (pc := 40) hV 1 dX6_tryStep_40 rfl ?_
    exact zr_zret (pc := 41) hV dX6_tryStep_41 rfl rfl (by omega) ⟨_, rfl, ⟨by decide, by decide⟩, hσ37, hFσ37, (by omega), (show ((1 : Int) = 0 → ¬ zs_can σ 147 ∧ ∀ a i, σ37 a i = σ a i) ∧ ((1 : Int) = 1 → zs_can σ 147 ∧ zs_tr σ σ37 (zs_oa σ 147) (zs_bt σ 147)) from ⟨fun h => absurd h (by decide), fun _ => ⟨can, by rw [← eoa, ← ebt]; exact ⟨wσ37.1, wσ37.2.1, wσ37.2.2.2.2⟩⟩⟩)⟩
set_option maxHeartbeats 800000 in
theorem c_X6_isSo_2 {σ : zq_S} (hσ : zc_T σ) (items : Int) (kitems : zc_kd items = 280) (at_ : Int) (q0 : 0 ≤ at_ ∧ at_ ≤ 27) : zq_C zc_w yX6_isSo cX6_isSo 4 (some .boolean) 1 20 284 284 [ZR 140, ZR items, ZI at_] σ (zq_pp σ (fun r => (0 ≤ r ∧ r ≤ 1) ∧ (r = 1 ↔ zs_is (σ items) (zw_cs σ 147) (zx_p2 (σ 3 1)) at_))) := by
  refine zq_C_of (by decide) (Nat.le_refl _) (Nat.le_of_ble_eq_true rfl) [some (ZR 140), some (ZR items), some (ZI at_), none] rfl (fun V hV => ?_)
  have poitems := zc_pos kitems rfl
  have zp1 := zx_p2_pos (σ 3 1)
  show V 0 [some (ZR 140), some (ZR items), some (ZI at_), none] [] 284 σ
  refine zr_aload_n (pc := 0) hV dX6_isSo_0 rfl rfl ?_
  refine zr_iload_n (pc := 1) hV dX6_isSo_1 rfl rfl ?_
  refine zr_iconst (pc := 2) hV 1 dX6_isSo_2 rfl ?_
  refine zr_iadd (pc := 3) hV dX6_isSo_3 ?_
  refine zr_iald (pc := 4) hV dX6_isSo_4 (zc_k280 kitems) (zc_pos kitems rfl) rfl (by omega) ?_
  have t1 := zc_ga280 hσ kitems (at_ + 1)
  refine zr_istore_n (pc := 5) hV [some (ZR 140), some (ZR items), some (ZI at_), some (ZI (σ items (at_ + 1)))] dX6_isSo_5 rfl (by decide) rfl rfl ?_
  refine zr_aload_n (pc := 6) hV dX6_isSo_6 rfl rfl ?_
  refine zr_iload_n (pc := 7) hV dX6_isSo_7 rfl rfl ?_
  refine zr_iald (pc := 8) hV dX6_isSo_8 (zc_k280 kitems) (zc_pos kitems rfl) rfl (by omega) ?_
  have t2 := zc_ga280 hσ kitems at_
  refine zr_aload_n (pc := 9) hV dX6_isSo_9 rfl rfl ?_
  refine zr_getR (pc := 10) hV 3 147 dX6_isSo_10 fX6_20 rfl rfl (zc_k140 zc_s140) (zc_pos zc_s140 rfl) (zc_g140_3 hσ zc_s140) (by decide) ?_
  refine zr_getI (pc := 13) hV 4 dX6_isSo_13 fX6_85 rfl rfl (zc_k147 zc_s147) (zc_pos zc_s147 rfl) ?_
  have t3 := zc_g147_4 hσ zc_s147
  refine zr_icmp_ne (pc := 16) hV 55 dX6_isSo_16 (by decide) (by omega) (by omega) (fun c4 => ?_) (fun c4 => ?_)
  · show V 55 [some (ZR 140), some (ZR items), some (ZI at_), some (ZI (σ items (at_ + 1)))] [] 284 σ
    refine zr_iconst (pc := 55) hV 0 dX6_isSo_55 rfl ?_
    show V 56 [some (ZR 140), some (ZR items), some (ZI at_), some (ZI (σ items (at_ + 1)))] [ZI 0] 284 σ
    exact zr_zret (pc := 56) hV dX6_isSo_56 rfl rfl (by omega) ⟨rfl, _, rfl, ⟨by decide, by decide⟩, ⟨by omega, ⟨fun h => absurd h (by decide), fun h => by obtain ⟨h1, h2, h3, h4⟩ := h; rw [zw_cs_p] at h1; exfalso; first | omega | (rw [zw_cs_r (a := 148) rfl (by omega)] at h4; omega)⟩⟩⟩
  · show V 19 [some (ZR 140), some (ZR items), some (ZI at_), some (ZI (σ items (at_ + 1)))] [] 284 σ
    refine zr_iload_n (pc := 19) hV dX6_isSo_19 rfl rfl ?_
    refine zr_if_lt (pc := 20) hV 55 dX6_isSo_20 (by decide) (by omega) (fun c5 => ?_) (fun c5 => ?_)
    · show V 55 [some (ZR 140), some (ZR items), some (ZI at_), some (ZI (σ items (at_ + 1)))] [] 284 σ
      refine zr_iconst (pc := 55) hV 0 dX6_isSo_55 rfl ?_
      show V 56 [some (ZR 140), some (ZR items), some (ZI at_), some (ZI (σ items (at_ + 1)))] [ZI 0] 284 σ
      exact zr_zret (pc := 56) hV dX6_isSo_56 rfl rfl (by omega) ⟨rfl, _, rfl, ⟨by decide, by decide⟩, ⟨by omega, ⟨fun h => absurd h (by decide), fun h => by obtain ⟨h1, h2, h3, h4⟩ := h; rw [zw_cs_p] at h1; exfalso; first | omega | (rw [zw_cs_r (a := 148) rfl (by omega)] at h4; omega)⟩⟩⟩
    · show V 23 [some (ZR 140), some (ZR items), some (ZI at_), some (ZI (σ items (at_ + 1)))] [] 284 σ
      refine zr_iload_n (pc := 23) hV dX6_isSo_23 rfl rfl ?_
      refine zr_aload_n (pc := 24) hV dX6_isSo_24 rfl rfl ?_
      refine zr_getR (pc := 25) hV 0 3 dX6_isSo_25 fX6_32 rfl rfl (zc_k140 zc_s140) (zc_pos zc_s140 rfl) (zc_g140_0 hσ zc_s140) (by decide) ?_
      refine zr_callVp (pc := 28) hV [] (st := [ZI (σ items (at_ + 1))]) (c_X9_registers_3 (σ := σ) hσ) dX6_isSo_28 mX6_159 (zc_k3 zc_s3) (zc_pos zc_s3 rfl) (by decide) (Nat.le_of_ble_eq_true rfl) (Nat.le_refl _) (fun r28 hr28 pr28 => ?_)
      have t6 := zc_g3_1 hσ zc_s3
      refine zr_icmp_ge (pc := 31) hV 55 dX6_isSo_31 (by decide) (by omega) (by omega) (fun c7 => ?_) (fun c7 => ?_)
      · show V 55 [some (ZR 140), some (ZR items), some (ZI at_), some (ZI (σ items (at_ + 1)))] [] 284 σ
        refine zr_iconst (pc := 55) hV 0 dX6_isSo_55 rfl ?_
        show V 56 [some (ZR 140), some (ZR items), some (ZI at_), some (ZI (σ items (at_ + 1)))] [ZI 0] 284 σ
        exact zr_zret (pc := 56) hV dX6_isSo_56 rfl rfl (by omega) ⟨rfl, _, rfl, ⟨by decide, by decide⟩, ⟨by omega, ⟨fun h => absurd h (by decide), fun h => by obtain ⟨h1, h2, h3, h4⟩ := h; rw [zw_cs_p] at h1; exfalso; first | omega | (rw [zw_cs_r (a := 148) rfl (by omega)] at h4; omega)⟩⟩⟩
      · show V 34 [some (ZR 140), some (ZR items), some (ZI at_), some (ZI (σ items (at_ + 1)))] [] 284 σ
        refine zr_aload_n (pc := 34) hV dX6_isSo_34 rfl rfl ?_
        refine zr_iload_n (pc := 35) hV dX6_isSo_35 rfl rfl ?_
        refine zr_iconst (pc := 36) hV 2 dX6_isSo_36 rfl ?_
        refine zr_iadd (pc := 37) hV dX6_isSo_37 ?_
        refine zr_iald (pc := 38) hV dX6_isSo_38 (zc_k280 kitems) (zc_pos kitems rfl) rfl (by omega) ?_
        have t8 := zc_ga280 hσ kitems (at_ + 2)
        refine zr_aload_n (pc := 39) hV dX6_isSo_39 rfl rfl ?_
        refine zr_getR (pc := 40) hV 3 147 dX6_isSo_40 fX6_20 rfl rfl (zc_k140 zc_s140) (zc_pos zc_s140 rfl) (zc_g140_3 hσ zc_s140) (by decide) ?_
        refine zr_getR (pc := 43) hV 1 148 dX6_isSo_43 fX6_163 rfl rfl (zc_k147 zc_s147) (zc_pos zc_s147 rfl) (zc_g147_1 hσ zc_s147) (by decide) ?_
        refine zr_iload_n (pc := 46) hV dX6_isSo_46 rfl rfl ?_
        refine zr_iald (pc := 47) hV dX6_isSo_47 (zc_k148 zc_s148) (zc_pos zc_s148 rfl) rfl (by omega) ?_
        have t9 := zc_ga148 hσ zc_s148 (σ items (at_ + 1))
        refine zr_icmp_ne (pc := 48) hV 55 dX6_isSo_48 (by decide) (by omega) (by omega) (fun c10 => ?_) (fun c10 => ?_)
        · show V 55 [some (ZR 140), some (ZR items), some (ZI at_), some (ZI (σ items (at_ + 1)))] [] 284 σ
          refine zr_iconst (pc := 55) hV 0 dX6_isSo_55 rfl ?_
          show V 56 [some (ZR 140), some (ZR items), some (ZI at_), some (ZI (σ items (at_ + 1)))] [ZI 0] 284 σ
          exact zr_zret (pc := 56) hV dX6_isSo_56 rfl rfl (by omega) ⟨rfl, _, rfl, ⟨by decide, by decide⟩, ⟨by omega, ⟨fun h => absurd h (by decide), fun h => by obtain ⟨h1, h2, h3, h4⟩ := h; rw [zw_cs_p] at h1; exfalso; first | omega | (rw [zw_cs_r (a := 148) rfl (by omega)] at h4; omega)⟩⟩⟩
        · show V 51 [some (ZR 140), some (ZR items), some (ZI at_), some (ZI (σ items (at_ + 1)))] [] 284 σ
          refine zr_iconst (pc := 51) hV 1 dX6_isSo_51 rfl ?_
          refine zr_goto (pc := 52) hV 56 dX6_isSo_52 (by decide) ?_
          show V 56 [some (ZR 140), some (ZR items), some (ZI at_), some (ZI (σ items (at_ + 1)))] [ZI 1] 284 σ
          exact zr_zret (pc := 56) hV dX6_isSo_56 rfl rfl (by omega) ⟨rfl, _, rfl, ⟨by decide, by decide⟩, ⟨by omega, ⟨fun _ => ⟨by rw [zw_cs_p]; omega, by omega, by omega, by rw [zw_cs_r (a := 148) rfl (by omega)]; omega⟩, fun _ => rfl⟩⟩⟩
set_option maxHeartbeats 800000 in
theorem c_X6_holdAgainst_2 {σ : zq_S} (hσ : zc_T σ) (items : Int) (kitems : zc_kd items = 280) (from_ : Int) (n : Int) (q0 : 0 ≤ from_ ∧ from_ ≤ 30) (q1 : 0 ≤ n ∧ n ≤ 10) (q2 : from_ + 3 * n ≤ 30) (q3 : zq_hid (zs_pc σ (σ 141 0))) (q4 : zq_hid (zw_ok (fun _ => 0) (zw_cs σ 141) (σ 141 0))) : zq_C zc_w yX6_holdAgainst cX6_holdAgainst 5 (some .int) 6 133 284 284 [ZR 140, ZR items, ZI from_, ZI n] σ (zq_pi (fun r τ => zc_T τ ∧ zc_Fr [(147, 0), (147, 3), (147, 4), (147, 6), (148, -1), (149, -1), (150, -1), (151, -1), (152, -1)] σ τ ∧ ((0 ≤ r ∧ r ≤ 10)) ∧ zq_hid (∃ μ, zs_cp σ μ ∧ zs_rs (zs_lo items from_) (fun μ => zs_can μ 147) (zs_Rt items from_) n r μ))) := by
  refine zq_C_of (by decide) (Nat.le_refl _) (Nat.le_of_ble_eq_true rfl) [some (ZR 140), some (ZR items), some (ZI from_), some (ZI n), none] rfl (fun V hV => ?_)
  have poitems := zc_pos kitems rfl
  have hFσ := zc_Fr_rf [(147, 0), (147, 3), (147, 4), (147, 6), (148, -1), (149, -1), (150, -1), (151, -1), (152, -1)] σ
  show V 0 [some (ZR 140), some (ZR items), some (ZI from_), some (ZI n), none] [] 284 σ
  refine zr_aload_n (pc := 0) hV dX6_holdAgainst_0 rfl rfl ?_
  refine zr_getR (pc := 1) hV 3 147 dX6_holdAgainst_1 fX6_20 rfl rfl (zc_k140 zc_s140) (zc_pos zc_s140 rfl) (zc_g140_3 hσ zc_s140) (by decide) ?_
  refine zr_aload_n (pc := 4) hV dX6_holdAgainst_4 rfl rfl ?_
  refine zr_getR (pc := 5) hV 2 141 dX6_holdAgainst_5 fX6_16 rfl rfl (zc_k140 zc_s140) (zc_pos zc_s140 rfl) (zc_g140_2 hσ zc_s140) (by decide) ?_
  refine zr_callVv (pc := 8) hV [ZR 141] (st := []) (c_X10_copyOf_2 (σ := σ) hσ) dX6_holdAgainst_8 mX6_148 (zc_k147 zc_s147) (zc_pos zc_s147 rfl) (by decide) (Nat.le_of_ble_eq_true rfl) (Nat.le_refl _) (fun σ8 pσ8 => ?_)
  obtain ⟨hσ8, hfσ8, pσ8, wσ8⟩ := pσ8
  have hFσ8 := zc_Fc hfσ8 rfl hFσ
  have t1 := zc_g141_0 hσ zc_s141
  have t2 := zc_g141_3 hσ zc_s141
  have t3 := zc_g141_4 hσ zc_s141
  have t4 := zc_g147_0 hσ8 zc_s147
  have t5 := zc_g147_3 hσ8 zc_s147
  have t6 := zc_g147_4 hσ8 zc_s147
  have cp8 : zs_cp σ σ8 := zs_cp_mk hσ hσ8 hfσ8 wσ8 pσ8.2.2 q3 q4
  refine zr_iconst (pc := 11) hV 0 dX6_holdAgainst_11 rfl ?_
  refine zr_istore (pc := 12) hV [some (ZR 140), some (ZR items), some (ZI from_), some (ZI n), some (ZI 0)] dX6_holdAgainst_12 (by decide) rfl rfl ?_
  have L14 : ∀ (fuel : Nat) (x4_14 : Int) (σ_14 : zq_S), (0 ≤ x4_14 ∧ x4_14 ≤ 10) → (zc_T σ_14) → (zc_Fr [(147, 0), (147, 3), (147, 4), (147, 6), (148, -1), (149, -1), (150, -1), (151, -1), (152, -1)] σ σ_14) → (zq_hid ((x4_14 = 0 ∧ σ_14 = σ8) ∨ (0 < x4_14 ∧ zs_cn (zs_Rt items from_) (x4_14 - 1) σ8 σ_14 ∧ (zs_lo items from_) (x4_14 - 1) σ_14))) → (zq_hid (zs_pt σ_14)) → (x4_14 ≤ n) → 10 - x4_14 < (fuel : Int) → V 14 [some (ZR 140), some (ZR items), some (ZI from_), some (ZI n), some (ZI x4_14)] [] 284 σ_14 := by
    intro fuel
    induction fuel with
    | zero =>
      intro x4_14 σ_14 hx4_14 hσ_14 hFσ_14 hi14_0 hi14_1 hi14_2 hm14
      exfalso; omega
    | succ fuel ih =>
      intro x4_14 σ_14 hx4_14 hσ_14 hFσ_14 hi14_0 hi14_1 hi14_2 hm14
      have ih14 := ih
      show V 14 [some (ZR 140), some (ZR items), some (ZI from_), some (ZI n), some (ZI x4_14)] [] 284 σ_14
      refine zr_iload (pc := 14) hV dX6_holdAgainst_14 rfl ?_
      refine zr_iload_n (pc := 16) hV dX6_holdAgainst_16 rfl rfl ?_
      refine zr_icmp_ge (pc := 17) hV 58 dX6_holdAgainst_17 (by decide) (by omega) (by omega) (fun c7 => ?_) (fun c7 => ?_)
      · show V 58 [some (ZR 140), some (ZR items), some (ZI from_), some (ZI n), some (ZI x4_14)] [] 284 σ_14
        refine zr_iload_n (pc := 58) hV dX6_holdAgainst_58 rfl rfl ?_
        exact zr_iret (pc := 59) hV dX6_holdAgainst_59 rfl rfl ⟨_, rfl, (by omega), hσ_14, hFσ_14, (by omega), (show ∃ μ, zs_cp σ μ ∧ zs_rs (zs_lo items from_) (fun μ => zs_can μ 147) (zs_Rt items from_) n n μ from ⟨σ8, cp8, by omega, Or.inl ⟨rfl, by rcases hi14_0 with h | h; (have z := h.1; exact Or.inl (by omega)); exact Or.inr ⟨σ_14, by rw [show n - 1 = x4_14 - 1 by omega]; exact h.2.1, by rw [show n - 1 = x4_14 - 1 by omega]; exact h.2.2⟩⟩⟩)⟩
      · show V 20 [some (ZR 140), some (ZR items), some (ZI from_), some (ZI n), some (ZI x4_14)] [] 284 σ_14
        refine zr_iload (pc := 20) hV dX6_holdAgainst_20 rfl ?_
        have J35 : ∀ (σ_35 : zq_S), (zc_T σ_35) → (zc_Fr [(147, 0), (147, 3), (147, 4), (147, 6), (148, -1), (149, -1), (150, -1), (151, -1), (152, -1)] σ σ_35) → (zq_hid (zs_cn (zs_Rt items from_) x4_14 σ8 σ_35)) → (zq_hid (zs_pt σ_35)) → V 35 [some (ZR 140), some (ZR items), some (ZI from_), some (ZI n), some (ZI x4_14)] [] 284 σ_35 := by
          intro σ_35 hσ_35 hFσ_35 hi35_0 hi35_1
          show V 35 [some (ZR 140), some (ZR items), some (ZI from_), some (ZI n), some (ZI x4_14)] [] 284 σ_35
          refine zr_aload_n (pc := 35) hV dX6_holdAgainst_35 rfl rfl ?_
          refine zr_aload_n (pc := 36) hV dX6_holdAgainst_36 rfl rfl ?_
          refine zr_iload_n (pc := 37) hV dX6_holdAgainst_37 rfl rfl ?_
          refine zr_iconst (pc := 38) hV 3 dX6_holdAgainst_38 rfl ?_
          refine zr_iload (pc := 39) hV dX6_holdAgainst_39 rfl ?_
          refine zr_imul (pc := 41) hV dX6_holdAgainst_41 ?_
          refine zr_iadd (pc := 42) hV dX6_holdAgainst_42 ?_
          refine zr_callVp (pc := 43) hV [ZR items, ZI (from_ + (3 * x4_14))] (st := []) (c_X6_isSo_2 (σ := σ_35) hσ_35 items kitems (from_ + (3 * x4_14)) (by omega)) dX6_holdAgainst_43 mX6_155 (zc_k140 zc_s140) (zc_pos zc_s140 rfl) (by decide) (Nat.le_of_ble_eq_true rfl) (Nat.le_refl _) (fun r43 hr43 pr43 => ?_)
          have t8 := zc_g3_1 hσ_35 zc_s3
          have t9 : σ_35 3 1 = σ 3 1 := hFσ_35 _ _ (zc_out_at zc_s3 rfl)
          refine zr_if_ne (pc := 46) hV 52 dX6_holdAgainst_46 (by decide) (by omega) (fun c10 => ?_) (fun c10 => ?_)
          · show V 52 [some (ZR 140), some (ZR items), some (ZI from_), some (ZI n), some (ZI x4_14)] [] 284 σ_35
            refine zr_iinc (pc := 52) hV [some (ZR 140), some (ZR items), some (ZI from_), some (ZI n), some (ZI (x4_14 + 1))] (x4_14 + 1) dX6_holdAgainst_52 rfl rfl (by decide) rfl rfl ?_
            refine zr_goto (pc := 55) hV 14 dX6_holdAgainst_55 (by decide) ?_
            exact ih14 (x4_14 + 1) σ_35 (by omega) hσ_35 hFσ_35 (Or.inr ⟨by omega, by rw [show x4_14 + 1 - 1 = x4_14 by omega]; exact hi35_0, by rw [show x4_14 + 1 - 1 = x4_14 by omega]; exact pr43.2.mp (by omega)⟩) hi35_1 (by omega) (by omega)
          · show V 49 [some (ZR 140), some (ZR items), some (ZI from_), some (ZI n), some (ZI x4_14)] [] 284 σ_35
            refine zr_iload (pc := 49) hV dX6_holdAgainst_49 rfl ?_
            exact zr_iret (pc := 51) hV dX6_holdAgainst_51 rfl rfl ⟨_, rfl, (by omega), hσ_35, hFσ_35, (by omega), (show ∃ μ, zs_cp σ μ ∧ zs_rs (zs_lo items from_) (fun μ => zs_can μ 147) (zs_Rt items from_) n x4_14 μ from ⟨σ8, cp8, by omega, Or.inr (Or.inl ⟨by omega, σ_35, hi35_0, fun q => absurd (pr43.2.mpr q) (by omega)⟩)⟩)⟩
        refine zr_if_le (pc := 22) hV 35 dX6_holdAgainst_22 (by decide) (by omega) (fun c11 => ?_) (fun c11 => ?_)
        · exact J35 σ_14 hσ_14 hFσ_14 (by rcases hi14_0 with h | h; (unfold zq_hid; rw [h.2, show x4_14 = 0 by omega]; exact zs_cn_0 _ _); (exfalso; have z := h.1; omega)) hi14_1
        · show V 25 [some (ZR 140), some (ZR items), some (ZI from_), some (ZI n), some (ZI x4_14)] [] 284 σ_14
          refine zr_aload_n (pc := 25) hV dX6_holdAgainst_25 rfl rfl ?_
          refine zr_callVi (pc := 26) hV [] (st := []) (c_X6_tryStep_2 (σ := σ_14) hσ_14 hi14_1) dX6_holdAgainst_26 mX6_152 (zc_k140 zc_s140) (zc_pos zc_s140 rfl) (by decide) (Nat.le_of_ble_eq_true rfl) (Nat.le_refl _) (fun r26 σ26 hr26 pσ26 => ?_)
          obtain ⟨hσ26, hfσ26, pσ26, wσ26⟩ := pσ26
          have hFσ26 := zc_Fc hfσ26 rfl hFσ_14
          refine zr_if_ne (pc := 29) hV 35 dX6_holdAgainst_29 (by decide) (by omega) (fun c12 => ?_) (fun c12 => ?_)
          · exact J35 σ26 hσ26 hFσ26 (by rcases hi14_0 with h | h; (exfalso; have z := h.1; omega); (have z := zs_cn_s (n := x4_14 - 1) (by omega) h.2.1 ⟨hσ_14, hi14_1, hfσ26, (wσ26.2 (by omega)).1, h.2.2, (wσ26.2 (by omega)).2⟩; rw [show x4_14 - 1 + 1 = x4_14 by omega] at z; exact z)) (zs_pt_st hσ_14 hi14_1 hfσ26 (wσ26.2 (by omega)).2)
          · show V 32 [some (ZR 140), some (ZR items), some (ZI from_), some (ZI n), some (ZI x4_14)] [] 284 σ26
            refine zr_iload (pc := 32) hV dX6_holdAgainst_32 rfl ?_
            exact zr_iret (pc := 34) hV dX6_holdAgainst_34 rfl rfl ⟨_, rfl, (by omega), hσ26, hFσ26, (by omega), (show ∃ μ, zs_cp σ μ ∧ zs_rs (zs_lo items from_) (fun μ => zs_can μ 147) (zs_Rt items from_) n x4_14 μ from ⟨σ8, cp8, by omega, Or.inr (Or.inr (by rcases hi14_0 with h | h; (exfalso; have z := h.1; omega); exact ⟨by omega, by omega, σ_14, h.2.1, h.2.2, (wσ26.1 (by omega)).1⟩))⟩)⟩
  exact L14 (10 - (0 : Int) + 1 : Int).toNat 0 σ8 (by omega) hσ8 hFσ8 (Or.inl ⟨rfl, rfl⟩) cp8.2.2.2.2 (by omega) (by omega)
set_option maxHeartbeats 800000 in
theorem c_X10_held_2 {σ : zq_S} (hσ : zc_T σ) (what : Int) (i : Int) (q0 : zq_in what) (q1 : zq_in i) : zq_C zc_w yX10_held cX10_held 3 (some .int) 0 0 284 284 [ZR 141, ZI what, ZI i] σ (zq_pp σ (fun r => r = (if what = 0 then σ 142 (zq_and i 7) else if what = 1 then σ 143 (zq_and i 255) else if what = 2 then σ 141 3 else σ 141 4))) := by
  refine zq_C_of (by decide) (Nat.le_refl _) (Nat.le_of_ble_eq_true rfl) [some (ZR 141), some (ZI what), some (ZI i)] rfl (fun V hV => ?_)
  show V 0 [some (ZR 141), some (ZI what), some (ZI i)] [] 284 σ
  refine zr_iload_n (pc := 0) hV dX10_held_0 rfl rfl ?_
  by_cases c1 : what = 0
  · refine zr_eqI (V := V) 0 c1 ?_
    refine zr_tableIn (pc := 1) hV 28 dX10_held_1 ⟨by decide, by decide⟩ (by decide) (by decide) rfl (by decide) ?_
    show V 28 [some (ZR 141), some (ZI what), some (ZI i)] [] 284 σ
    refine zr_aload_n (pc := 28) hV dX10_held_28 rfl rfl ?_
    refine zr_getR (pc := 29) hV 1 142 dX10_held_29 fX10_11 rfl rfl (zc_k141 zc_s141) (zc_pos zc_s141 rfl) (zc_g141_1 hσ zc_s141) (by decide) ?_
    refine zr_iload_n (pc := 32) hV dX10_held_32 rfl rfl ?_
    refine zr_bipush (pc := 33) hV 7 dX10_held_33 (by decide) ?_
    refine zr_iand (pc := 35) hV dX10_held_35 ?_
    have t2 := zq_and_mask i 3 7 8 (by decide) (by decide) (by decide)
    refine zr_iald (pc := 36) hV dX10_held_36 (zc_k142 zc_s142) (zc_pos zc_s142 rfl) rfl (by omega) ?_
    have t3 := zc_ga142 hσ zc_s142 (zq_and i 7)
    exact zr_iret (pc := 37) hV dX10_held_37 rfl rfl ⟨rfl, _, rfl, (by omega), (by repeat (first | rw [if_pos (by omega)] | rw [if_neg (by omega)]))⟩
  by_cases c4 : what = 1
  · refine zr_eqI (V := V) 1 c4 ?_
    refine zr_tableIn (pc := 1) hV 38 dX10_held_1 ⟨by decide, by decide⟩ (by decide) (by decide) rfl (by decide) ?_
    show V 38 [some (ZR 141), some (ZI what), some (ZI i)] [] 284 σ
    refine zr_aload_n (pc := 38) hV dX10_held_38 rfl rfl ?_
    refine zr_getR (pc := 39) hV 2 143 dX10_held_39 fX10_15 rfl rfl (zc_k141 zc_s141) (zc_pos zc_s141 rfl) (zc_g141_2 hσ zc_s141) (by decide) ?_
    refine zr_iload_n (pc := 42) hV dX10_held_42 rfl rfl ?_
    refine zr_sipush (pc := 43) hV 255 dX10_held_43 (by decide) ?_
    refine zr_iand (pc := 46) hV dX10_held_46 ?_
    have t5 := zq_and_mask i 8 255 256 (by decide) (by decide) (by decide)
    refine zr_iald (pc := 47) hV dX10_held_47 (zc_k143 zc_s143) (zc_pos zc_s143 rfl) rfl (by omega) ?_
    have t6 := zc_ga143 hσ zc_s143 (zq_and i 255)
    exact zr_iret (pc := 48) hV dX10_held_48 rfl rfl ⟨rfl, _, rfl, (by omega), (by repeat (first | rw [if_pos (by omega)] | rw [if_neg (by omega)]))⟩
  by_cases c7 : what = 2
  · refine zr_eqI (V := V) 2 c7 ?_
    refine zr_tableIn (pc := 1) hV 49 dX10_held_1 ⟨by decide, by decide⟩ (by decide) (by decide) rfl (by decide) ?_
    show V 49 [some (ZR 141), some (ZI what), some (ZI i)] [] 284 σ
    refine zr_aload_n (pc := 49) hV dX10_held_49 rfl rfl ?_
    refine zr_getI (pc := 50) hV 3 dX10_held_50 fX10_35 rfl rfl (zc_k141 zc_s141) (zc_pos zc_s141 rfl) ?_
    have t8 := zc_g141_3 hσ zc_s141
    exact zr_iret (pc := 53) hV dX10_held_53 rfl rfl ⟨rfl, _, rfl, (by omega), (by repeat (first | rw [if_pos (by omega)] | rw [if_neg (by omega)]))⟩
  refine zr_tableOut (pc := 1) hV 54 dX10_held_1 (by omega) (by omega) (by decide) ?_
  show V 54 [some (ZR 141), some (ZI what), some (ZI i)] [] 284 σ
  refine zr_aload_n (pc := 54) hV dX10_held_54 rfl rfl ?_
  refine zr_getI (pc := 55) hV 4 dX10_held_55 fX10_39 rfl rfl (zc_k141 zc_s141) (zc_pos zc_s141 rfl) ?_
  have t9 := zc_g141_4 hσ zc_s141
  exact zr_iret (pc := 58) hV dX10_held_58 rfl rfl ⟨rfl, _, rfl, (by omega), (by repeat (first | rw [if_pos (by omega)] | rw [if_neg (by omega)]))⟩
set_option maxHeartbeats 800000 in
theorem c_X10_hold_2 {σ : zq_S} (hσ : zc_T σ) (what : Int) (i : Int) (v : Int) (q0 : zq_in what) (q1 : zq_in i) (q2 : zq_in v) : zq_C zc_w yX10_hold cX10_hold 4 (none) 0 0 284 284 [ZR 141, ZI what, ZI i, ZI v] σ (zq_pv (fun τ => zc_T τ ∧ zc_Fr [(141, 3), (141, 4), (142, -1), (143, -1)] σ τ ∧ (True) ∧ zq_hid (zw_cs τ 141 = zw_up (zw_cs σ 141) (zs_wh what i) v))) := by
  refine zq_C_of (by decide) (Nat.le_refl _) (Nat.le_of_ble_eq_true rfl) [some (ZR 141), some (ZI what), some (ZI i), some (ZI v)] rfl (fun V hV => ?_)
  have hFσ := zc_Fr_rf [(141, 3), (141, 4), (142, -1), (143, -1)] σ
  show V 0 [some (ZR 141), some (ZI what), some (ZI i), some (ZI v)] [] 284 σ
  refine zr_iload_n (pc := 0) hV dX10_hold_0 rfl rfl ?_
  by_cases c1 : what = 0
  · refine zr_eqI (V := V) 0 c1 ?_
    refine zr_tableIn (pc := 1) hV 28 dX10_hold_1 ⟨by decide, by decide⟩ (by decide) (by decide) rfl (by decide) ?_
    show V 28 [some (ZR 141), some (ZI what), some (ZI i), some (ZI v)] [] 284 σ
    refine zr_aload_n (pc := 28) hV dX10_hold_28 rfl rfl ?_
    refine zr_getR (pc := 29) hV 1 142 dX10_hold_29 fX10_11 rfl rfl (zc_k141 zc_s141) (zc_pos zc_s141 rfl) (zc_g141_1 hσ zc_s141) (by decide) ?_
    refine zr_iload_n (pc := 32) hV dX10_hold_32 rfl rfl ?_
    refine zr_bipush (pc := 33) hV 7 dX10_hold_33 (by decide) ?_
    refine zr_iand (pc := 35) hV dX10_hold_35 ?_
    have t2 := zq_and_mask i 3 7 8 (by decide) (by decide) (by decide)
    refine zr_iload_n (pc := 36) hV dX10_hold_36 rfl rfl ?_
    refine zr_iast (pc := 37) hV dX10_hold_37 (zc_k142 zc_s142) (zc_pos zc_s142 rfl) rfl (by omega) (fun σ37 eσ37 => ?_)
    have hσ37 : zc_T σ37 := zc_ua142 eσ37 hσ zc_s142 (by omega)
    have hFσ37 := zc_Fa eσ37 zc_s142 rfl hFσ
    refine zr_goto (pc := 38) hV 68 dX10_hold_38 (by decide) ?_
    show V 68 [some (ZR 141), some (ZI what), some (ZI i), some (ZI v)] [] 284 σ37
    exact zr_vret (pc := 68) hV dX10_hold_68 rfl rfl ⟨rfl, hσ37, hFσ37, trivial, (show zw_cs σ37 141 = zw_up (zw_cs σ 141) (zs_wh what i) v from (by rw [zw_cs_ur (b := 141) eσ37 rfl (by omega)]; unfold zs_wh; rw [if_pos (by omega)]))⟩
  by_cases c3 : what = 1
  · refine zr_eqI (V := V) 1 c3 ?_
    refine zr_tableIn (pc := 1) hV 41 dX10_hold_1 ⟨by decide, by decide⟩ (by decide) (by decide) rfl (by decide) ?_
    show V 41 [some (ZR 141), some (ZI what), some (ZI i), some (ZI v)] [] 284 σ
    refine zr_aload_n (pc := 41) hV dX10_hold_41 rfl rfl ?_
    refine zr_getR (pc := 42) hV 2 143 dX10_hold_42 fX10_15 rfl rfl (zc_k141 zc_s141) (zc_pos zc_s141 rfl) (zc_g141_2 hσ zc_s141) (by decide) ?_
    refine zr_iload_n (pc := 45) hV dX10_hold_45 rfl rfl ?_
    refine zr_sipush (pc := 46) hV 255 dX10_hold_46 (by decide) ?_
    refine zr_iand (pc := 49) hV dX10_hold_49 ?_
    have t4 := zq_and_mask i 8 255 256 (by decide) (by decide) (by decide)
    refine zr_iload_n (pc := 50) hV dX10_hold_50 rfl rfl ?_
    refine zr_iast (pc := 51) hV dX10_hold_51 (zc_k143 zc_s143) (zc_pos zc_s143 rfl) rfl (by omega) (fun σ51 eσ51 => ?_)
    have hσ51 : zc_T σ51 := zc_ua143 eσ51 hσ zc_s143 (by omega)
    have hFσ51 := zc_Fa eσ51 zc_s143 rfl hFσ
    refine zr_goto (pc := 52) hV 68 dX10_hold_52 (by decide) ?_
    show V 68 [some (ZR 141), some (ZI what), some (ZI i), some (ZI v)] [] 284 σ51
    exact zr_vret (pc := 68) hV dX10_hold_68 rfl rfl ⟨rfl, hσ51, hFσ51, trivial, (show zw_cs σ51 141 = zw_up (zw_cs σ 141) (zs_wh what i) v from (by rw [zw_cs_um (b := 141) eσ51 rfl (by omega) (by omega)]; unfold zs_wh; rw [if_neg (by omega), if_pos (by omega)]))⟩
  by_cases c5 : what = 2
  · refine zr_eqI (V := V) 2 c5 ?_
    refine zr_tableIn (pc := 1) hV 55 dX10_hold_1 ⟨by decide, by decide⟩ (by decide) (by decide) rfl (by decide) ?_
    show V 55 [some (ZR 141), some (ZI what), some (ZI i), some (ZI v)] [] 284 σ
    refine zr_aload_n (pc := 55) hV dX10_hold_55 rfl rfl ?_
    refine zr_iload_n (pc := 56) hV dX10_hold_56 rfl rfl ?_
    refine zr_putI (pc := 57) hV 3 dX10_hold_57 fX10_35 rfl rfl rfl (zc_k141 zc_s141) (zc_pos zc_s141 rfl) (fun σ57 eσ57 => ?_)
    have hσ57 : zc_T σ57 := zc_u141_3 eσ57 hσ zc_s141 (by omega)
    have hFσ57 := zc_Fw eσ57 zc_s141 rfl hFσ
    refine zr_goto (pc := 60) hV 68 dX10_hold_60 (by decide) ?_
    show V 68 [some (ZR 141), some (ZI what), some (ZI i), some (ZI v)] [] 284 σ57
    exact zr_vret (pc := 68) hV dX10_hold_68 rfl rfl ⟨rfl, hσ57, hFσ57, trivial, (show zw_cs σ57 141 = zw_up (zw_cs σ 141) (zs_wh what i) v from (by rw [zw_cs_u3 (b := 141) eσ57]; unfold zs_wh; rw [if_neg (by omega), if_neg (by omega), if_pos (by omega)]))⟩
  refine zr_tableOut (pc := 1) hV 63 dX10_hold_1 (by omega) (by omega) (by decide) ?_
  show V 63 [some (ZR 141), some (ZI what), some (ZI i), some (ZI v)] [] 284 σ
  refine zr_aload_n (pc := 63) hV dX10_hold_63 rfl rfl ?_
  refine zr_iload_n (pc := 64) hV dX10_hold_64 rfl rfl ?_
  refine zr_putI (pc := 65) hV 4 dX10_hold_65 fX10_39 rfl rfl rfl (zc_k141 zc_s141) (zc_pos zc_s141 rfl) (fun σ65 eσ65 => ?_)
  have hσ65 : zc_T σ65 := zc_u141_4 eσ65 hσ zc_s141 (by omega)
  have hFσ65 := zc_Fw eσ65 zc_s141 rfl hFσ
  show V 68 [some (ZR 141), some (ZI what), some (ZI i), some (ZI v)] [] 284 σ65
  exact zr_vret (pc := 68) hV dX10_hold_68 rfl rfl ⟨rfl, hσ65, hFσ65, trivial, (show zw_cs σ65 141 = zw_up (zw_cs σ 141) (zs_wh what i) v from (by rw [zw_cs_u4 (b := 141) eσ65]; unfold zs_wh; rw [if_neg (by omega), if_neg (by omega), if_neg (by omega)]))⟩
set_option maxHeartbeats 800000 in
theorem c_X10_mostOf_2 {σ : zq_S} (hσ : zc_T σ) (what : Int) (q0 : zq_in what) : zq_C zc_w yX10_mostOf cX10_mostOf 2 (some .int) 0 0 284 284 [ZR 141, ZI what] σ (zq_pp σ (fun r => r = zs_mo what (σ 141 0))) := by
  refine zq_C_of (by decide) (Nat.le_refl _) (Nat.le_of_ble_eq_true rfl) [some (ZR 141), some (ZI what)] rfl (fun V hV => ?_)
  show V 0 [some (ZR 141), some (ZI what)] [] 284 σ
  refine zr_iload_n (pc := 0) hV dX10_mostOf_0 rfl rfl ?_
  refine zr_iconst (pc := 1) hV 2 dX10_mostOf_1 rfl ?_
  refine zr_icmp_ne (pc := 2) hV 9 dX10_mostOf_2 (by decide) (by omega) ⟨by decide, by decide⟩ (fun c1 => ?_) (fun c1 => ?_)
  · show V 9 [some (ZR 141), some (ZI what)] [] 284 σ
    refine zr_iload_n (pc := 9) hV dX10_mostOf_9 rfl rfl ?_
    refine zr_iconst (pc := 10) hV 3 dX10_mostOf_10 rfl ?_
    refine zr_icmp_ne (pc := 11) hV 19 dX10_mostOf_11 (by decide) (by omega) ⟨by decide, by decide⟩ (fun c2 => ?_) (fun c2 => ?_)
    · show V 19 [some (ZR 141), some (ZI what)] [] 284 σ
      refine zr_aload_n (pc := 19) hV dX10_mostOf_19 rfl rfl ?_
      refine zr_getI (pc := 20) hV 0 dX10_mostOf_20 fX10_48 rfl rfl (zc_k141 zc_s141) (zc_pos zc_s141 rfl) ?_
      have t3 := zc_g141_0 hσ zc_s141
      show V 23 [some (ZR 141), some (ZI what)] [ZI (σ 141 0)] 284 σ
      exact zr_iret (pc := 23) hV dX10_mostOf_23 rfl rfl ⟨rfl, _, rfl, (by omega), (by unfold zs_mo; repeat (first | rw [if_pos (by omega)] | rw [if_neg (by omega)]))⟩
    · show V 14 [some (ZR 141), some (ZI what)] [] 284 σ
      refine zr_bipush (pc := 14) hV 63 dX10_mostOf_14 (by decide) ?_
      refine zr_goto (pc := 16) hV 23 dX10_mostOf_16 (by decide) ?_
      show V 23 [some (ZR 141), some (ZI what)] [ZI 63] 284 σ
      exact zr_iret (pc := 23) hV dX10_mostOf_23 rfl rfl ⟨rfl, _, rfl, ⟨by decide, by decide⟩, (by unfold zs_mo; repeat (first | rw [if_pos (by omega)] | rw [if_neg (by omega)]))⟩
  · show V 5 [some (ZR 141), some (ZI what)] [] 284 σ
    refine zr_iconst (pc := 5) hV 1 dX10_mostOf_5 rfl ?_
    refine zr_goto (pc := 6) hV 23 dX10_mostOf_6 (by decide) ?_
    show V 23 [some (ZR 141), some (ZI what)] [ZI 1] 284 σ
    exact zr_iret (pc := 23) hV dX10_mostOf_23 rfl rfl ⟨rfl, _, rfl, ⟨by decide, by decide⟩, (by unfold zs_mo; repeat (first | rw [if_pos (by omega)] | rw [if_neg (by omega)]))⟩
set_option maxHeartbeats 800000 in
theorem c_X6_change_2 {σ : zq_S} (hσ : zc_T σ) (what : Int) (i : Int) (v : Int) (q0 : zq_in what) (q1 : zq_in i) (q2 : zq_in v) : zq_C zc_w yX6_change cX6_change 4 (none) 2 40 284 284 [ZR 140, ZI what, ZI i, ZI v] σ (zq_pv (fun τ => zc_T τ ∧ zc_Fr [(140, 5), (140, 13), (140, 14), (141, 3), (141, 4), (142, -1), (143, -1)] σ τ ∧ (τ 140 5 = 0 ∧ τ 140 13 = 0 ∧ τ 140 14 = 0) ∧ zq_hid (zw_cs τ 141 = zw_up (zw_cs σ 141) (zs_wh what i) v))) := by
  refine zq_C_of (by decide) (Nat.le_refl _) (Nat.le_of_ble_eq_true rfl) [some (ZR 140), some (ZI what), some (ZI i), some (ZI v)] rfl (fun V hV => ?_)
  have hFσ := zc_Fr_rf [(140, 5), (140, 13), (140, 14), (141, 3), (141, 4), (142, -1), (143, -1)] σ
  show V 0 [some (ZR 140), some (ZI what), some (ZI i), some (ZI v)] [] 284 σ
  refine zr_aload_n (pc := 0) hV dX6_change_0 rfl rfl ?_
  refine zr_getR (pc := 1) hV 2 141 dX6_change_1 fX6_16 rfl rfl (zc_k140 zc_s140) (zc_pos zc_s140 rfl) (zc_g140_2 hσ zc_s140) (by decide) ?_
  refine zr_iload_n (pc := 4) hV dX6_change_4 rfl rfl ?_
  refine zr_iload_n (pc := 5) hV dX6_change_5 rfl rfl ?_
  refine zr_iload_n (pc := 6) hV dX6_change_6 rfl rfl ?_
  refine zr_callVv (pc := 7) hV [ZI what, ZI i, ZI v] (st := []) (c_X10_hold_2 (σ := σ) hσ what i v (by omega) (by omega) (by omega)) dX6_change_7 mX6_77 (zc_k141 zc_s141) (zc_pos zc_s141 rfl) (by decide) (Nat.le_of_ble_eq_true rfl) (Nat.le_refl _) (fun σ7 pσ7 => ?_)
  obtain ⟨hσ7, hfσ7, pσ7, wσ7⟩ := pσ7
  have hFσ7 := zc_Fc hfσ7 rfl hFσ
  refine zr_aload_n (pc := 10) hV dX6_change_10 rfl rfl ?_
  refine zr_callVv (pc := 11) hV [] (st := []) (c_X6_forgetPast_3 (σ := σ7) hσ7) dX6_change_11 mX6_62 (zc_k140 zc_s140) (zc_pos zc_s140 rfl) (by decide) (Nat.le_of_ble_eq_true rfl) (Nat.le_refl _) (fun σ11 pσ11 => ?_)
  obtain ⟨hσ11, hfσ11, pσ11⟩ := pσ11
  have hFσ11 := zc_Fc hfσ11 rfl hFσ7
  have t1 := zc_g140_13 hσ11 zc_s140
  have t2 := zc_g140_14 hσ11 zc_s140
  have t3 := zc_g140_5 hσ11 zc_s140
  have t4 := zc_g140_13 hσ11 zc_s140
  have t5 := zc_g140_14 hσ11 zc_s140
  have t6 := zc_g140_5 hσ11 zc_s140
  exact zr_vret (pc := 14) hV dX6_change_14 rfl rfl ⟨rfl, hσ11, hFσ11, (by omega), (show zw_cs σ11 141 = zw_up (zw_cs σ 141) (zs_wh what i) v from (by have w := wσ7; unfold zq_hid at w; rw [(zw_cs_c (b := 141) (fun i => hfσ11 142 i (zc_out_ar zc_s142 rfl)) (fun i => hfσ11 143 i (zc_out_ar zc_s143 rfl)) (hfσ11 141 3 (zc_out_at zc_s141 rfl)) (hfσ11 141 4 (zc_out_at zc_s141 rfl))), w]))⟩
set_option maxHeartbeats 800000 in
theorem c_X11_get_2 {σ : zq_S} (hσ : zc_T σ) (what : Int) (i : Int) (q0 : zq_in what) (q1 : zq_in i) (Uσ : zc_U σ) : zq_C zc_w yX11_get cX11_get 3 (some .int) 1 22 284 284 [ZR 0, ZI what, ZI i] σ (zq_pp σ (fun r => r = zs_gt (zw_cs σ 141) (zx_p2 (σ 3 1)) (zx_p2 (σ 3 0) - 1) what i)) := by
  refine zq_C_of (by decide) (Nat.le_refl _) (Nat.le_of_ble_eq_true rfl) [some (ZR 0), some (ZI what), some (ZI i)] rfl (fun V hV => ?_)
  have zk3 := zc_g3_1 hσ zc_s3
  have zw3 := zc_g3_0 hσ zc_s3
  have zp1 := (zx_shl_one (y := σ 3 1) 3 8 (by decide) (by decide) (by omega))
  have zp0 := (zx_shl_one (y := σ 3 0) 8 256 (by decide) (by decide) (by omega))
  show V 0 [some (ZR 0), some (ZI what), some (ZI i)] [] 284 σ
  refine zr_iload_n (pc := 0) hV dX11_get_0 rfl rfl ?_
  refine zr_if_ne (pc := 1) hV 23 dX11_get_1 (by decide) (by omega) (fun c1 => ?_) (fun c1 => ?_)
  · show V 23 [some (ZR 0), some (ZI what), some (ZI i)] [] 284 σ
    refine zr_iload_n (pc := 23) hV dX11_get_23 rfl rfl ?_
    refine zr_iconst (pc := 24) hV 1 dX11_get_24 rfl ?_
    refine zr_icmp_ne (pc := 25) hV 45 dX11_get_25 (by decide) (by omega) ⟨by decide, by decide⟩ (fun c2 => ?_) (fun c2 => ?_)
    · show V 45 [some (ZR 0), some (ZI what), some (ZI i)] [] 284 σ
      refine zr_iload_n (pc := 45) hV dX11_get_45 rfl rfl ?_
      refine zr_iconst (pc := 46) hV 0 dX11_get_46 rfl ?_
      refine zr_iconst (pc := 47) hV 3 dX11_get_47 rfl ?_
      refine zr_callSp (pc := 48) hV [ZI what, ZI 0, ZI 3] (st := []) (c_X11_within (σ := σ) what 0 3 (by omega) (by omega) (by omega)) dX11_get_48 mX11_89 (by decide) (Nat.le_of_ble_eq_true rfl) (Nat.le_refl _) (fun r48 hr48 pr48 => ?_)
      refine zr_if_eq (pc := 51) hV 69 dX11_get_51 (by decide) (by omega) (fun c3 => ?_) (fun c3 => ?_)
      · show V 69 [some (ZR 0), some (ZI what), some (ZI i)] [] 284 σ
        refine zr_iconst (pc := 69) hV (-1) dX11_get_69 rfl ?_
        show V 70 [some (ZR 0), some (ZI what), some (ZI i)] [ZI (-1)] 284 σ
        exact zr_iret (pc := 70) hV dX11_get_70 rfl rfl ⟨rfl, _, rfl, ⟨by decide, by decide⟩, (zs_gt_n (by omega))⟩
      · show V 54 [some (ZR 0), some (ZI what), some (ZI i)] [] 284 σ
        refine zr_aload_n (pc := 54) hV dX11_get_54 rfl rfl ?_
        refine zr_getR (pc := 55) hV 5 140 dX11_get_55 fX11_48 rfl rfl (zc_k0 zc_s0) (zc_pos zc_s0 rfl) (zc_g0_5 hσ zc_s0) (by decide) ?_
        refine zr_getR (pc := 58) hV 2 141 dX11_get_58 fX11_179 rfl rfl (zc_k140 zc_s140) (zc_pos zc_s140 rfl) (zc_g140_2 hσ zc_s140) (by decide) ?_
        refine zr_iload_n (pc := 61) hV dX11_get_61 rfl rfl ?_
        refine zr_iload_n (pc := 62) hV dX11_get_62 rfl rfl ?_
        refine zr_callVp (pc := 63) hV [ZI what, ZI i] (st := []) (c_X10_held_2 (σ := σ) hσ what i (by omega) (by omega)) dX11_get_63 mX11_191 (zc_k141 zc_s141) (zc_pos zc_s141 rfl) (by decide) (Nat.le_of_ble_eq_true rfl) (Nat.le_refl _) (fun r63 hr63 pr63 => ?_)
        have t4 := zc_g141_3 hσ zc_s141
        have t5 := zc_g141_4 hσ zc_s141
        refine zr_goto (pc := 66) hV 70 dX11_get_66 (by decide) ?_
        show V 70 [some (ZR 0), some (ZI what), some (ZI i)] [ZI r63] 284 σ
        exact zr_iret (pc := 70) hV dX11_get_70 rfl rfl ⟨rfl, _, rfl, (by omega), (zs_gt_y (by omega) (by omega) (by omega) (fun q => by omega) (fun q => by omega) pr63)⟩
    · show V 28 [some (ZR 0), some (ZI what), some (ZI i)] [] 284 σ
      refine zr_iload_n (pc := 28) hV dX11_get_28 rfl rfl ?_
      refine zr_iconst (pc := 29) hV 0 dX11_get_29 rfl ?_
      refine zr_aload_n (pc := 30) hV dX11_get_30 rfl rfl ?_
      refine zr_getR (pc := 31) hV 1 3 dX11_get_31 fX11_19 rfl rfl (zc_k0 zc_s0) (zc_pos zc_s0 rfl) (zc_g0_1 hσ zc_s0) (by decide) ?_
      refine zr_callVp (pc := 34) hV [] (st := [ZI 0, ZI i]) (c_X9_wordMask_3 (σ := σ) hσ) dX11_get_34 mX11_79 (zc_k3 zc_s3) (zc_pos zc_s3 rfl) (by decide) (Nat.le_of_ble_eq_true rfl) (Nat.le_refl _) (fun r34 hr34 pr34 => ?_)
      have t6 := zc_g3_0 hσ zc_s3
      refine zr_callSp (pc := 37) hV [ZI i, ZI 0, ZI r34] (st := []) (c_X11_within (σ := σ) i 0 r34 (by omega) (by omega) (by omega)) dX11_get_37 mX11_89 (by decide) (Nat.le_of_ble_eq_true rfl) (Nat.le_refl _) (fun r37 hr37 pr37 => ?_)
      refine zr_if_ne (pc := 40) hV 45 dX11_get_40 (by decide) (by omega) (fun c7 => ?_) (fun c7 => ?_)
      · show V 45 [some (ZR 0), some (ZI what), some (ZI i)] [] 284 σ
        refine zr_iload_n (pc := 45) hV dX11_get_45 rfl rfl ?_
        refine zr_iconst (pc := 46) hV 0 dX11_get_46 rfl ?_
        refine zr_iconst (pc := 47) hV 3 dX11_get_47 rfl ?_
        refine zr_callSp (pc := 48) hV [ZI what, ZI 0, ZI 3] (st := []) (c_X11_within (σ := σ) what 0 3 (by omega) (by omega) (by omega)) dX11_get_48 mX11_89 (by decide) (Nat.le_of_ble_eq_true rfl) (Nat.le_refl _) (fun r48 hr48 pr48 => ?_)
        refine zr_if_eq (pc := 51) hV 69 dX11_get_51 (by decide) (by omega) (fun c8 => ?_) (fun c8 => ?_)
        · show V 69 [some (ZR 0), some (ZI what), some (ZI i)] [] 284 σ
          refine zr_iconst (pc := 69) hV (-1) dX11_get_69 rfl ?_
          show V 70 [some (ZR 0), some (ZI what), some (ZI i)] [ZI (-1)] 284 σ
          exact zr_iret (pc := 70) hV dX11_get_70 rfl rfl ⟨rfl, _, rfl, ⟨by decide, by decide⟩, (zs_gt_n (by omega))⟩
        · show V 54 [some (ZR 0), some (ZI what), some (ZI i)] [] 284 σ
          refine zr_aload_n (pc := 54) hV dX11_get_54 rfl rfl ?_
          refine zr_getR (pc := 55) hV 5 140 dX11_get_55 fX11_48 rfl rfl (zc_k0 zc_s0) (zc_pos zc_s0 rfl) (zc_g0_5 hσ zc_s0) (by decide) ?_
          refine zr_getR (pc := 58) hV 2 141 dX11_get_58 fX11_179 rfl rfl (zc_k140 zc_s140) (zc_pos zc_s140 rfl) (zc_g140_2 hσ zc_s140) (by decide) ?_
          refine zr_iload_n (pc := 61) hV dX11_get_61 rfl rfl ?_
          refine zr_iload_n (pc := 62) hV dX11_get_62 rfl rfl ?_
          refine zr_callVp (pc := 63) hV [ZI what, ZI i] (st := []) (c_X10_held_2 (σ := σ) hσ what i (by omega) (by omega)) dX11_get_63 mX11_191 (zc_k141 zc_s141) (zc_pos zc_s141 rfl) (by decide) (Nat.le_of_ble_eq_true rfl) (Nat.le_refl _) (fun r63 hr63 pr63 => ?_)
          have t9 := zc_g141_3 hσ zc_s141
          have t10 := zc_g141_4 hσ zc_s141
          refine zr_goto (pc := 66) hV 70 dX11_get_66 (by decide) ?_
          show V 70 [some (ZR 0), some (ZI what), some (ZI i)] [ZI r63] 284 σ
          exact zr_iret (pc := 70) hV dX11_get_70 rfl rfl ⟨rfl, _, rfl, (by omega), (zs_gt_y (by omega) (by omega) (by omega) (fun q => by omega) (fun q => by omega) pr63)⟩
      · show V 43 [some (ZR 0), some (ZI what), some (ZI i)] [] 284 σ
        refine zr_iconst (pc := 43) hV (-1) dX11_get_43 rfl ?_
        exact zr_iret (pc := 44) hV dX11_get_44 rfl rfl ⟨rfl, _, rfl, ⟨by decide, by decide⟩, (zs_gt_n (by omega))⟩
  · show V 4 [some (ZR 0), some (ZI what), some (ZI i)] [] 284 σ
    refine zr_iload_n (pc := 4) hV dX11_get_4 rfl rfl ?_
    refine zr_iconst (pc := 5) hV 0 dX11_get_5 rfl ?_
    refine zr_aload_n (pc := 6) hV dX11_get_6 rfl rfl ?_
    refine zr_getR (pc := 7) hV 1 3 dX11_get_7 fX11_19 rfl rfl (zc_k0 zc_s0) (zc_pos zc_s0 rfl) (zc_g0_1 hσ zc_s0) (by decide) ?_
    refine zr_callVp (pc := 10) hV [] (st := [ZI 0, ZI i]) (c_X9_registers_3 (σ := σ) hσ) dX11_get_10 mX11_153 (zc_k3 zc_s3) (zc_pos zc_s3 rfl) (by decide) (Nat.le_of_ble_eq_true rfl) (Nat.le_refl _) (fun r10 hr10 pr10 => ?_)
    have t11 := zc_g3_1 hσ zc_s3
    refine zr_iconst (pc := 13) hV 1 dX11_get_13 rfl ?_
    refine zr_isub (pc := 14) hV dX11_get_14 ?_
    refine zr_callSp (pc := 15) hV [ZI i, ZI 0, ZI (r10 - 1)] (st := []) (c_X11_within (σ := σ) i 0 (r10 - 1) (by omega) (by omega) (by omega)) dX11_get_15 mX11_89 (by decide) (Nat.le_of_ble_eq_true rfl) (Nat.le_refl _) (fun r15 hr15 pr15 => ?_)
    refine zr_if_ne (pc := 18) hV 23 dX11_get_18 (by decide) (by omega) (fun c12 => ?_) (fun c12 => ?_)
    · show V 23 [some (ZR 0), some (ZI what), some (ZI i)] [] 284 σ
      refine zr_iload_n (pc := 23) hV dX11_get_23 rfl rfl ?_
      refine zr_iconst (pc := 24) hV 1 dX11_get_24 rfl ?_
      refine zr_icmp_ne (pc := 25) hV 45 dX11_get_25 (by decide) (by omega) ⟨by decide, by decide⟩ (fun c13 => ?_) (fun c13 => ?_)
      · show V 45 [some (ZR 0), some (ZI what), some (ZI i)] [] 284 σ
        refine zr_iload_n (pc := 45) hV dX11_get_45 rfl rfl ?_
        refine zr_iconst (pc := 46) hV 0 dX11_get_46 rfl ?_
        refine zr_iconst (pc := 47) hV 3 dX11_get_47 rfl ?_
        refine zr_callSp (pc := 48) hV [ZI what, ZI 0, ZI 3] (st := []) (c_X11_within (σ := σ) what 0 3 (by omega) (by omega) (by omega)) dX11_get_48 mX11_89 (by decide) (Nat.le_of_ble_eq_true rfl) (Nat.le_refl _) (fun r48 hr48 pr48 => ?_)
        refine zr_if_eq (pc := 51) hV 69 dX11_get_51 (by decide) (by omega) (fun c14 => ?_) (fun c14 => ?_)
        · show V 69 [some (ZR 0), some (ZI what), some (ZI i)] [] 284 σ
          refine zr_iconst (pc := 69) hV (-1) dX11_get_69 rfl ?_
          show V 70 [some (ZR 0), some (ZI what), some (ZI i)] [ZI (-1)] 284 σ
          exact zr_iret (pc := 70) hV dX11_get_70 rfl rfl ⟨rfl, _, rfl, ⟨by decide, by decide⟩, (zs_gt_n (by omega))⟩
        · show V 54 [some (ZR 0), some (ZI what), some (ZI i)] [] 284 σ
          refine zr_aload_n (pc := 54) hV dX11_get_54 rfl rfl ?_
          refine zr_getR (pc := 55) hV 5 140 dX11_get_55 fX11_48 rfl rfl (zc_k0 zc_s0) (zc_pos zc_s0 rfl) (zc_g0_5 hσ zc_s0) (by decide) ?_
          refine zr_getR (pc := 58) hV 2 141 dX11_get_58 fX11_179 rfl rfl (zc_k140 zc_s140) (zc_pos zc_s140 rfl) (zc_g140_2 hσ zc_s140) (by decide) ?_
          refine zr_iload_n (pc := 61) hV dX11_get_61 rfl rfl ?_
          refine zr_iload_n (pc := 62) hV dX11_get_62 rfl rfl ?_
          refine zr_callVp (pc := 63) hV [ZI what, ZI i] (st := []) (c_X10_held_2 (σ := σ) hσ what i (by omega) (by omega)) dX11_get_63 mX11_191 (zc_k141 zc_s141) (zc_pos zc_s141 rfl) (by decide) (Nat.le_of_ble_eq_true rfl) (Nat.le_refl _) (fun r63 hr63 pr63 => ?_)
          have t15 := zc_g141_3 hσ zc_s141
          have t16 := zc_g141_4 hσ zc_s141
          refine zr_goto (pc := 66) hV 70 dX11_get_66 (by decide) ?_
          show V 70 [some (ZR 0), some (ZI what), some (ZI i)] [ZI r63] 284 σ
          exact zr_iret (pc := 70) hV dX11_get_70 rfl rfl ⟨rfl, _, rfl, (by omega), (zs_gt_y (by omega) (by omega) (by omega) (fun q => by omega) (fun q => by omega) pr63)⟩
      · exfalso; omega
    · show V 21 [some (ZR 0), some (ZI what), some (ZI i)] [] 284 σ
      refine zr_iconst (pc := 21) hV (-1) dX11_get_21 rfl ?_
      exact zr_iret (pc := 22) hV dX11_get_22 rfl rfl ⟨rfl, _, rfl, ⟨by decide, by decide⟩, (zs_gt_n (by omega))⟩
set_option maxHeartbeats 800000 in
theorem c_X11_set_2 {σ : zq_S} (hσ : zc_T σ) (what : Int) (i : Int) (v : Int) (q0 : zq_in what) (q1 : zq_in i) (q2 : zq_in v) (q3 : zq_hid (zw_ok (fun _ => 0) (zw_cs σ 141) (σ 141 0))) (q4 : σ 141 0 = zx_p2 (σ 3 0) - 1) (Uσ : zc_U σ) : zq_C zc_w yX11_set cX11_set 5 (some .int) 3 63 284 284 [ZR 0, ZI what, ZI i, ZI v] σ (zq_pi (fun r τ => zc_T τ ∧ zc_Fr [(140, 5), (140, 13), (140, 14), (141, 3), (141, 4), (142, -1), (143, -1)] σ τ ∧ (True) ∧ zq_hid (zs_se (zw_cs σ 141) (zw_cs τ 141) (zs_pl (zx_p2 (σ 3 1)) (zx_p2 (σ 3 0) - 1) what i) (zs_mo what (zx_p2 (σ 3 0) - 1)) v r ∧ (¬ (zs_pl (zx_p2 (σ 3 1)) (zx_p2 (σ 3 0) - 1) what i < 0 ∨ v < 0 ∨ zs_mo what (zx_p2 (σ 3 0) - 1) < v) → τ 140 5 = 0 ∧ τ 140 13 = 0 ∧ τ 140 14 = 0) ∧ (zs_pl (zx_p2 (σ 3 1)) (zx_p2 (σ 3 0) - 1) what i < 0 ∨ v < 0 ∨ zs_mo what (zx_p2 (σ 3 0) - 1) < v → ∀ a i, τ a i = σ a i)) ∧ zc_U τ)) := by
  refine zq_C_of (by decide) (Nat.le_refl _) (Nat.le_of_ble_eq_true rfl) [some (ZR 0), some (ZI what), some (ZI i), some (ZI v), none] rfl (fun V hV => ?_)
  have hFσ := zc_Fr_rf [(140, 5), (140, 13), (140, 14), (141, 3), (141, 4), (142, -1), (143, -1)] σ
  have zk3 := zc_g3_1 hσ zc_s3
  have zw3 := zc_g3_0 hσ zc_s3
  have zp1 := (zx_shl_one (y := σ 3 1) 3 8 (by decide) (by decide) (by omega))
  have zp0 := (zx_shl_one (y := σ 3 0) 8 256 (by decide) (by decide) (by omega))
  show V 0 [some (ZR 0), some (ZI what), some (ZI i), some (ZI v), none] [] 284 σ
  refine zr_aload_n (pc := 0) hV dX11_set_0 rfl rfl ?_
  refine zr_iload_n (pc := 1) hV dX11_set_1 rfl rfl ?_
  refine zr_iload_n (pc := 2) hV dX11_set_2 rfl rfl ?_
  refine zr_callVp (pc := 3) hV [ZI what, ZI i] (st := []) (c_X11_get_2 (σ := σ) hσ what i (by omega) (by omega) Uσ) dX11_set_3 mX11_176 (zc_k0 zc_s0) (zc_pos zc_s0 rfl) (by decide) (Nat.le_of_ble_eq_true rfl) (Nat.le_refl _) (fun r3 hr3 pr3 => ?_)
  have t1 := zc_g3_0 hσ zc_s3
  have t2 := zc_g3_1 hσ zc_s3
  have gb := zs_gt_b (K := zx_p2 (σ 3 1)) (m := zx_p2 (σ 3 0) - 1) (w := what) (i := i) (r := r3) (by omega) (by omega) (by have z := q3; unfold zq_hid at z; rw [q4] at z; exact z) pr3
  refine zr_istore (pc := 6) hV [some (ZR 0), some (ZI what), some (ZI i), some (ZI v), some (ZI r3)] dX11_set_6 (by decide) rfl rfl ?_
  refine zr_iload (pc := 8) hV dX11_set_8 rfl ?_
  refine zr_if_lt (pc := 10) hV 32 dX11_set_10 (by decide) (by omega) (fun c3 => ?_) (fun c3 => ?_)
  · show V 32 [some (ZR 0), some (ZI what), some (ZI i), some (ZI v), some (ZI r3)] [] 284 σ
    refine zr_iconst (pc := 32) hV (-1) dX11_set_32 rfl ?_
    have t4 := zc_g140_13 hσ zc_s140
    have t5 := zc_g140_14 hσ zc_s140
    have t6 := zc_g140_5 hσ zc_s140
    exact zr_iret (pc := 33) hV dX11_set_33 rfl rfl ⟨_, rfl, ⟨by decide, by decide⟩, hσ, hFσ, trivial, (show zs_se (zw_cs σ 141) (zw_cs σ 141) (zs_pl (zx_p2 (σ 3 1)) (zx_p2 (σ 3 0) - 1) what i) (zs_mo what (zx_p2 (σ 3 0) - 1)) v ((-1) : Int) ∧ (¬ (zs_pl (zx_p2 (σ 3 1)) (zx_p2 (σ 3 0) - 1) what i < 0 ∨ v < 0 ∨ zs_mo what (zx_p2 (σ 3 0) - 1) < v) → σ 140 5 = 0 ∧ σ 140 13 = 0 ∧ σ 140 14 = 0) ∧ (zs_pl (zx_p2 (σ 3 1)) (zx_p2 (σ 3 0) - 1) what i < 0 ∨ v < 0 ∨ zs_mo what (zx_p2 (σ 3 0) - 1) < v → ∀ a i, σ a i = σ a i) from ⟨⟨fun _ => ⟨rfl, fun _ => rfl⟩, fun h => absurd (by omega) h⟩, fun h => absurd (by omega) h, fun _ _ _ => rfl⟩), Uσ⟩
  · show V 13 [some (ZR 0), some (ZI what), some (ZI i), some (ZI v), some (ZI r3)] [] 284 σ
    refine zr_iload_n (pc := 13) hV dX11_set_13 rfl rfl ?_
    refine zr_if_lt (pc := 14) hV 32 dX11_set_14 (by decide) (by omega) (fun c7 => ?_) (fun c7 => ?_)
    · show V 32 [some (ZR 0), some (ZI what), some (ZI i), some (ZI v), some (ZI r3)] [] 284 σ
      refine zr_iconst (pc := 32) hV (-1) dX11_set_32 rfl ?_
      have t8 := zc_g140_13 hσ zc_s140
      have t9 := zc_g140_14 hσ zc_s140
      have t10 := zc_g140_5 hσ zc_s140
      exact zr_iret (pc := 33) hV dX11_set_33 rfl rfl ⟨_, rfl, ⟨by decide, by decide⟩, hσ, hFσ, trivial, (show zs_se (zw_cs σ 141) (zw_cs σ 141) (zs_pl (zx_p2 (σ 3 1)) (zx_p2 (σ 3 0) - 1) what i) (zs_mo what (zx_p2 (σ 3 0) - 1)) v ((-1) : Int) ∧ (¬ (zs_pl (zx_p2 (σ 3 1)) (zx_p2 (σ 3 0) - 1) what i < 0 ∨ v < 0 ∨ zs_mo what (zx_p2 (σ 3 0) - 1) < v) → σ 140 5 = 0 ∧ σ 140 13 = 0 ∧ σ 140 14 = 0) ∧ (zs_pl (zx_p2 (σ 3 1)) (zx_p2 (σ 3 0) - 1) what i < 0 ∨ v < 0 ∨ zs_mo what (zx_p2 (σ 3 0) - 1) < v → ∀ a i, σ a i = σ a i) from ⟨⟨fun _ => ⟨rfl, fun _ => rfl⟩, fun h => absurd (by omega) h⟩, fun h => absurd (by omega) h, fun _ _ _ => rfl⟩), Uσ⟩
    · show V 17 [some (ZR 0), some (ZI what), some (ZI i), some (ZI v), some (ZI r3)] [] 284 σ
      refine zr_iload_n (pc := 17) hV dX11_set_17 rfl rfl ?_
      refine zr_aload_n (pc := 18) hV dX11_set_18 rfl rfl ?_
      refine zr_getR (pc := 19) hV 5 140 dX11_set_19 fX11_48 rfl rfl (zc_k0 zc_s0) (zc_pos zc_s0 rfl) (zc_g0_5 hσ zc_s0) (by decide) ?_
      refine zr_getR (pc := 22) hV 2 141 dX11_set_22 fX11_179 rfl rfl (zc_k140 zc_s140) (zc_pos zc_s140 rfl) (zc_g140_2 hσ zc_s140) (by decide) ?_
      refine zr_iload_n (pc := 25) hV dX11_set_25 rfl rfl ?_
      refine zr_callVp (pc := 26) hV [ZI what] (st := [ZI v]) (c_X10_mostOf_2 (σ := σ) hσ what (by omega)) dX11_set_26 mX11_183 (zc_k141 zc_s141) (zc_pos zc_s141 rfl) (by decide) (Nat.le_of_ble_eq_true rfl) (Nat.le_refl _) (fun r26 hr26 pr26 => ?_)
      have t11 := zc_g141_0 hσ zc_s141
      have mo : r26 = zs_mo what (zx_p2 (σ 3 0) - 1) := by rw [pr26, q4]
      refine zr_icmp_le (pc := 29) hV 34 dX11_set_29 (by decide) (by omega) (by omega) (fun c12 => ?_) (fun c12 => ?_)
      · show V 34 [some (ZR 0), some (ZI what), some (ZI i), some (ZI v), some (ZI r3)] [] 284 σ
        refine zr_aload_n (pc := 34) hV dX11_set_34 rfl rfl ?_
        refine zr_getR (pc := 35) hV 5 140 dX11_set_35 fX11_48 rfl rfl (zc_k0 zc_s0) (zc_pos zc_s0 rfl) (zc_g0_5 hσ zc_s0) (by decide) ?_
        refine zr_iload_n (pc := 38) hV dX11_set_38 rfl rfl ?_
        refine zr_iload_n (pc := 39) hV dX11_set_39 rfl rfl ?_
        refine zr_iload_n (pc := 40) hV dX11_set_40 rfl rfl ?_
        refine zr_callVv (pc := 41) hV [ZI what, ZI i, ZI v] (st := []) (c_X6_change_2 (σ := σ) hσ what i v (by omega) (by omega) (by omega)) dX11_set_41 mX11_188 (zc_k140 zc_s140) (zc_pos zc_s140 rfl) (by decide) (Nat.le_of_ble_eq_true rfl) (Nat.le_refl _) (fun σ41 pσ41 => ?_)
        obtain ⟨hσ41, hfσ41, pσ41, wσ41⟩ := pσ41
        have hFσ41 := zc_Fc hfσ41 rfl hFσ
        have Uσ41 : zc_U σ41 := zc_U_fr hfσ41 rfl hσ Uσ
        have t13 := zc_g140_13 hσ41 zc_s140
        have t14 := zc_g140_14 hσ41 zc_s140
        have t15 := zc_g140_5 hσ41 zc_s140
        refine zr_iload (pc := 44) hV dX11_set_44 rfl ?_
        have t16 := zc_g140_13 hσ41 zc_s140
        have t17 := zc_g140_14 hσ41 zc_s140
        have t18 := zc_g140_5 hσ41 zc_s140
        exact zr_iret (pc := 46) hV dX11_set_46 rfl rfl ⟨_, rfl, (by omega), hσ41, hFσ41, trivial, (show zs_se (zw_cs σ 141) (zw_cs σ41 141) (zs_pl (zx_p2 (σ 3 1)) (zx_p2 (σ 3 0) - 1) what i) (zs_mo what (zx_p2 (σ 3 0) - 1)) v r3 ∧ (¬ (zs_pl (zx_p2 (σ 3 1)) (zx_p2 (σ 3 0) - 1) what i < 0 ∨ v < 0 ∨ zs_mo what (zx_p2 (σ 3 0) - 1) < v) → σ41 140 5 = 0 ∧ σ41 140 13 = 0 ∧ σ41 140 14 = 0) ∧ (zs_pl (zx_p2 (σ 3 1)) (zx_p2 (σ 3 0) - 1) what i < 0 ∨ v < 0 ∨ zs_mo what (zx_p2 (σ 3 0) - 1) < v → ∀ a i, σ41 a i = σ a i) from (by have nb : ¬ (zs_pl (zx_p2 (σ 3 1)) (zx_p2 (σ 3 0) - 1) what i < 0 ∨ v < 0 ∨ zs_mo what (zx_p2 (σ 3 0) - 1) < v) := (by omega); have w := wσ41; unfold zq_hid at w; have z := zs_pl_i (K := zx_p2 (σ 3 1)) (m := zx_p2 (σ 3 0) - 1) (w := what) (i := i) (by omega); have e := (zs_pl_y (K := zx_p2 (σ 3 1)) (m := zx_p2 (σ 3 0) - 1) (by omega) (by omega) z.1 z.2.1 z.2.2).1; exact ⟨⟨fun h => absurd h nb, fun _ => ⟨(gb.2 (by omega)).1, by rw [w, e]⟩⟩, fun _ => ⟨by omega, by omega, by omega⟩, fun h => absurd h nb⟩)), Uσ41⟩
      · show V 32 [some (ZR 0), some (ZI what), some (ZI i), some (ZI v), some (ZI r3)] [] 284 σ
        refine zr_iconst (pc := 32) hV (-1) dX11_set_32 rfl ?_
        have t19 := zc_g140_13 hσ zc_s140
        have t20 := zc_g140_14 hσ zc_s140
        have t21 := zc_g140_5 hσ zc_s140
        exact zr_iret (pc := 33) hV dX11_set_33 rfl rfl ⟨_, rfl, ⟨by decide, by decide⟩, hσ, hFσ, trivial, (show zs_se (zw_cs σ 141) (zw_cs σ 141) (zs_pl (zx_p2 (σ 3 1)) (zx_p2 (σ 3 0) - 1) what i) (zs_mo what (zx_p2 (σ 3 0) - 1)) v ((-1) : Int) ∧ (¬ (zs_pl (zx_p2 (σ 3 1)) (zx_p2 (σ 3 0) - 1) what i < 0 ∨ v < 0 ∨ zs_mo what (zx_p2 (σ 3 0) - 1) < v) → σ 140 5 = 0 ∧ σ 140 13 = 0 ∧ σ 140 14 = 0) ∧ (zs_pl (zx_p2 (σ 3 1)) (zx_p2 (σ 3 0) - 1) what i < 0 ∨ v < 0 ∨ zs_mo what (zx_p2 (σ 3 0) - 1) < v → ∀ a i, σ a i = σ a i) from ⟨⟨fun _ => ⟨rfl, fun _ => rfl⟩, fun h => absurd (by omega) h⟩, fun h => absurd (by omega) h, fun _ _ _ => rfl⟩), Uσ⟩
set_option maxHeartbeats 800000 in
theorem c_X11_run_2 {σ : zq_S} (hσ : zc_T σ) (n : Int) (q0 : zq_in n) (q1 : zq_hid (zs_ps σ)) (Uσ : zc_U σ) : zq_C zc_w yX11_run cX11_run 3 (some .int) 7 156 284 284 [ZR 0, ZI n] σ (zq_pi (fun r τ => zc_T τ ∧ zc_Fr [(140, 5), (140, 6), (140, 8), (140, 9), (140, 10), (140, 11), (140, 13), (140, 14), (141, 3), (141, 4), (141, 6), (142, -1), (143, -1), (144, -1), (145, -1), (146, -1), (154, -1), (254, -1)] σ τ ∧ (True) ∧ zq_hid ((¬ (1 ≤ n ∧ n ≤ 2000) → r = -1 ∧ ∀ a i, τ a i = σ a i) ∧ (1 ≤ n ∧ n ≤ 2000 → ∃ d, 0 ≤ d ∧ d ≤ n ∧ r = (if d = 0 then -5 else d) ∧ zs_cn zs_Rc d σ τ ∧ (d < n → ¬ zs_can τ 141))) ∧ zc_U τ)) := by
  refine zq_C_of (by decide) (Nat.le_refl _) (Nat.le_of_ble_eq_true rfl) [some (ZR 0), some (ZI n), none] rfl (fun V hV => ?_)
  have hFσ := zc_Fr_rf [(140, 5), (140, 6), (140, 8), (140, 9), (140, 10), (140, 11), (140, 13), (140, 14), (141, 3), (141, 4), (141, 6), (142, -1), (143, -1), (144, -1), (145, -1), (146, -1), (154, -1), (254, -1)] σ
  show V 0 [some (ZR 0), some (ZI n), none] [] 284 σ
  refine zr_iload_n (pc := 0) hV dX11_run_0 rfl rfl ?_
  refine zr_iconst (pc := 1) hV 1 dX11_run_1 rfl ?_
  refine zr_sipush (pc := 2) hV 2000 dX11_run_2 (by decide) ?_
  refine zr_callSp (pc := 5) hV [ZI n, ZI 1, ZI 2000] (st := []) (c_X11_within (σ := σ) n 1 2000 (by omega) (by omega) (by omega)) dX11_run_5 mX11_89 (by decide) (Nat.le_of_ble_eq_true rfl) (Nat.le_refl _) (fun r5 hr5 pr5 => ?_)
  refine zr_if_ne (pc := 8) hV 13 dX11_run_8 (by decide) (by omega) (fun c1 => ?_) (fun c1 => ?_)
  · show V 13 [some (ZR 0), some (ZI n), none] [] 284 σ
    refine zr_aload_n (pc := 13) hV dX11_run_13 rfl rfl ?_
    refine zr_getR (pc := 14) hV 5 140 dX11_run_14 fX11_48 rfl rfl (zc_k0 zc_s0) (zc_pos zc_s0 rfl) (zc_g0_5 hσ zc_s0) (by decide) ?_
    refine zr_iload_n (pc := 17) hV dX11_run_17 rfl rfl ?_
    refine zr_callVi (pc := 18) hV [ZI n] (st := []) (c_X6_goOn_2 (σ := σ) hσ n (by omega) q1) dX11_run_18 mX11_197 (zc_k140 zc_s140) (zc_pos zc_s140 rfl) (by decide) (Nat.le_of_ble_eq_true rfl) (Nat.le_refl _) (fun r18 σ18 hr18 pσ18 => ?_)
    obtain ⟨hσ18, hfσ18, pσ18, wσ18⟩ := pσ18
    have hFσ18 := zc_Fc hfσ18 rfl hFσ
    have Uσ18 : zc_U σ18 := zc_U_fr hfσ18 rfl hσ Uσ
    refine zr_istore_n (pc := 21) hV [some (ZR 0), some (ZI n), some (ZI r18)] dX11_run_21 rfl (by decide) rfl rfl ?_
    refine zr_iload_n (pc := 22) hV dX11_run_22 rfl rfl ?_
    refine zr_if_ne (pc := 23) hV 31 dX11_run_23 (by decide) (by omega) (fun c2 => ?_) (fun c2 => ?_)
    · show V 31 [some (ZR 0), some (ZI n), some (ZI r18)] [] 284 σ18
      refine zr_iload_n (pc := 31) hV dX11_run_31 rfl rfl ?_
      show V 32 [some (ZR 0), some (ZI n), some (ZI r18)] [ZI r18] 284 σ18
      exact zr_iret (pc := 32) hV dX11_run_32 rfl rfl ⟨_, rfl, (by omega), hσ18, hFσ18, trivial, (show (¬ (1 ≤ n ∧ n ≤ 2000) → r18 = -1 ∧ ∀ a i, σ18 a i = σ a i) ∧ (1 ≤ n ∧ n ≤ 2000 → ∃ d, 0 ≤ d ∧ d ≤ n ∧ r18 = (if d = 0 then -5 else d) ∧ zs_cn zs_Rc d σ σ18 ∧ (d < n → ¬ zs_can σ18 141)) from ⟨fun h => absurd (by omega) h, fun _ => ⟨r18, by omega, by omega, by first | rw [if_pos (by omega)] | rw [if_neg (by omega)], wσ18.1, wσ18.2.2⟩⟩), Uσ18⟩
    · show V 26 [some (ZR 0), some (ZI n), some (ZI r18)] [] 284 σ18
      refine zr_bipush (pc := 26) hV (-5) dX11_run_26 (by decide) ?_
      refine zr_goto (pc := 28) hV 32 dX11_run_28 (by decide) ?_
      show V 32 [some (ZR 0), some (ZI n), some (ZI r18)] [ZI (-5)] 284 σ18
      exact zr_iret (pc := 32) hV dX11_run_32 rfl rfl ⟨_, rfl, ⟨by decide, by decide⟩, hσ18, hFσ18, trivial, (show (¬ (1 ≤ n ∧ n ≤ 2000) → ((-5) : Int) = -1 ∧ ∀ a i, σ18 a i = σ a i) ∧ (1 ≤ n ∧ n ≤ 2000 → ∃ d, 0 ≤ d ∧ d ≤ n ∧ ((-5) : Int) = (if d = 0 then -5 else d) ∧ zs_cn zs_Rc d σ σ18 ∧ (d < n → ¬ zs_can σ18 141)) from ⟨fun h => absurd (by omega) h, fun _ => ⟨r18, by omega, by omega, by first | rw [if_pos (by omega)] | rw [if_neg (by omega)], wσ18.1, wσ18.2.2⟩⟩), Uσ18⟩
  · show V 11 [some (ZR 0), some (ZI n), none] [] 284 σ
    refine zr_iconst (pc := 11) hV (-1) dX11_run_11 rfl ?_
    exact zr_iret (pc := 12) hV dX11_run_12 rfl rfl ⟨_, rfl, ⟨by decide, by decide⟩, hσ, hFσ, trivial, (show (¬ (1 ≤ n ∧ n ≤ 2000) → ((-1) : Int) = -1 ∧ ∀ a i, σ a i = σ a i) ∧ (1 ≤ n ∧ n ≤ 2000 → ∃ d, 0 ≤ d ∧ d ≤ n ∧ ((-1) : Int) = (if d = 0 then -5 else d) ∧ zs_cn zs_Rc d σ σ ∧ (d < n → ¬ zs_can σ 141)) from ⟨fun _ => ⟨rfl, fun _ _ => rfl⟩, fun h => absurd h (by omega)⟩), Uσ⟩
set_option maxHeartbeats 800000 in
theorem c_X11_back_2 {σ : zq_S} (hσ : zc_T σ) (n : Int) (q0 : zq_in n) (q1 : zq_hid (∀ k, 0 ≤ k → k < σ 140 5 → zs_rk (σ (154 + (σ 140 6 + 99 - k) % 100)))) (Uσ : zc_U σ) : zq_C zc_w yX11_back cX11_back 2 (some .int) 3 66 284 284 [ZR 0, ZI n] σ (zq_pi (fun r τ => zc_T τ ∧ zc_Fr [(140, 5), (140, 6), (140, 8), (140, 9), (140, 10), (140, 11), (140, 13), (140, 14), (141, 3), (141, 4), (142, -1), (143, -1), (254, -1)] σ τ ∧ (True) ∧ zq_hid ((¬ (1 ≤ n ∧ n ≤ 100) → r = -1 ∧ ∀ a i, τ a i = σ a i) ∧ (1 ≤ n ∧ n ≤ 100 → (σ 140 5 < n → r = -2 ∧ ∀ a i, τ a i = σ a i) ∧ (n ≤ σ 140 5 → r = σ 140 5 - n ∧ τ 140 5 = σ 140 5 - n ∧ τ 140 6 = (σ 140 6 + 100 - n) % 100 ∧ zs_row τ = zs_U σ n ∧ τ 140 13 = 0 ∧ τ 140 14 = 0))) ∧ zc_U τ)) := by
  refine zq_C_of (by decide) (Nat.le_refl _) (Nat.le_of_ble_eq_true rfl) [some (ZR 0), some (ZI n)] rfl (fun V hV => ?_)
  have hFσ := zc_Fr_rf [(140, 5), (140, 6), (140, 8), (140, 9), (140, 10), (140, 11), (140, 13), (140, 14), (141, 3), (141, 4), (142, -1), (143, -1), (254, -1)] σ
  show V 0 [some (ZR 0), some (ZI n)] [] 284 σ
  refine zr_iload_n (pc := 0) hV dX11_back_0 rfl rfl ?_
  refine zr_iconst (pc := 1) hV 1 dX11_back_1 rfl ?_
  refine zr_bipush (pc := 2) hV 100 dX11_back_2 (by decide) ?_
  refine zr_callSp (pc := 4) hV [ZI n, ZI 1, ZI 100] (st := []) (c_X11_within (σ := σ) n 1 100 (by omega) (by omega) (by omega)) dX11_back_4 mX11_89 (by decide) (Nat.le_of_ble_eq_true rfl) (Nat.le_refl _) (fun r4 hr4 pr4 => ?_)
  refine zr_if_eq (pc := 7) hV 21 dX11_back_7 (by decide) (by omega) (fun c1 => ?_) (fun c1 => ?_)
  · show V 21 [some (ZR 0), some (ZI n)] [] 284 σ
    refine zr_iconst (pc := 21) hV (-1) dX11_back_21 rfl ?_
    show V 22 [some (ZR 0), some (ZI n)] [ZI (-1)] 284 σ
    have t2 := zc_g140_13 hσ zc_s140
    have t3 := zc_g140_14 hσ zc_s140
    have t4 := zc_g140_5 hσ zc_s140
    have t5 := zc_g140_6 hσ zc_s140
    exact zr_iret (pc := 22) hV dX11_back_22 rfl rfl ⟨_, rfl, ⟨by decide, by decide⟩, hσ, hFσ, trivial, (show (¬ (1 ≤ n ∧ n ≤ 100) → ((-1) : Int) = -1 ∧ ∀ a i, σ a i = σ a i) ∧ (1 ≤ n ∧ n ≤ 100 → (σ 140 5 < n → ((-1) : Int) = -2 ∧ ∀ a i, σ a i = σ a i) ∧ (n ≤ σ 140 5 → ((-1) : Int) = σ 140 5 - n ∧ σ 140 5 = σ 140 5 - n ∧ σ 140 6 = (σ 140 6 + 100 - n) % 100 ∧ zs_row σ = zs_U σ n ∧ σ 140 13 = 0 ∧ σ 140 14 = 0)) from ⟨fun _ => ⟨rfl, fun _ _ => rfl⟩, fun h => absurd h (by omega)⟩), Uσ⟩
  · show V 10 [some (ZR 0), some (ZI n)] [] 284 σ
    refine zr_aload_n (pc := 10) hV dX11_back_10 rfl rfl ?_
    refine zr_getR (pc := 11) hV 5 140 dX11_back_11 fX11_48 rfl rfl (zc_k0 zc_s0) (zc_pos zc_s0 rfl) (zc_g0_5 hσ zc_s0) (by decide) ?_
    refine zr_iload_n (pc := 14) hV dX11_back_14 rfl rfl ?_
    have t6 := zc_g140_5 hσ zc_s140
    have t7 := zc_g140_6 hσ zc_s140
    refine zr_callVi (pc := 15) hV [ZI n] (st := []) (c_X6_goBack_2 (σ := σ) hσ n (by omega) q1) dX11_back_15 mX11_200 (zc_k140 zc_s140) (zc_pos zc_s140 rfl) (by decide) (Nat.le_of_ble_eq_true rfl) (Nat.le_refl _) (fun r15 σ15 hr15 pσ15 => ?_)
    obtain ⟨hσ15, hfσ15, pσ15, wσ15⟩ := pσ15
    have hFσ15 := zc_Fc hfσ15 rfl hFσ
    have Uσ15 : zc_U σ15 := zc_U_fr hfσ15 rfl hσ Uσ
    have t8 := zc_g140_5 hσ zc_s140
    have t9 := zc_g140_6 hσ zc_s140
    refine zr_goto (pc := 18) hV 22 dX11_back_18 (by decide) ?_
    show V 22 [some (ZR 0), some (ZI n)] [ZI r15] 284 σ15
    have t10 := zc_g140_13 hσ15 zc_s140
    have t11 := zc_g140_14 hσ15 zc_s140
    have t12 := zc_g140_5 hσ15 zc_s140
    have t13 := zc_g140_6 hσ15 zc_s140
    exact zr_iret (pc := 22) hV dX11_back_22 rfl rfl ⟨_, rfl, (by omega), hσ15, hFσ15, trivial, (show (¬ (1 ≤ n ∧ n ≤ 100) → r15 = -1 ∧ ∀ a i, σ15 a i = σ a i) ∧ (1 ≤ n ∧ n ≤ 100 → (σ 140 5 < n → r15 = -2 ∧ ∀ a i, σ15 a i = σ a i) ∧ (n ≤ σ 140 5 → r15 = σ 140 5 - n ∧ σ15 140 5 = σ 140 5 - n ∧ σ15 140 6 = (σ 140 6 + 100 - n) % 100 ∧ zs_row σ15 = zs_U σ n ∧ σ15 140 13 = 0 ∧ σ15 140 14 = 0)) from ⟨fun h => absurd (by omega) h, fun _ => wσ15⟩), Uσ15⟩
set_option maxHeartbeats 800000 in
theorem c_X11_so_2 {σ : zq_S} (hσ : zc_T σ) (what : Int) (q0 : zq_in what) (Uσ : zc_U σ) : zq_C zc_w yX11_so cX11_so 2 (some .int) 0 0 284 284 [ZR 0, ZI what] σ (zq_pp σ (fun r => (what = 0 → r = σ 140 8) ∧ (what = 1 → r = σ 140 9) ∧ (what = 2 → r = σ 140 10) ∧ (what = 3 → r = σ 140 11) ∧ (¬ (0 ≤ what ∧ what ≤ 3) → r = -1))) := by
  refine zq_C_of (by decide) (Nat.le_refl _) (Nat.le_of_ble_eq_true rfl) [some (ZR 0), some (ZI what)] rfl (fun V hV => ?_)
  show V 0 [some (ZR 0), some (ZI what)] [] 284 σ
  refine zr_iload_n (pc := 0) hV dX11_so_0 rfl rfl ?_
  by_cases c1 : what = 0
  · refine zr_eqI (V := V) 0 c1 ?_
    refine zr_tableIn (pc := 1) hV 32 dX11_so_1 ⟨by decide, by decide⟩ (by decide) (by decide) rfl (by decide) ?_
    show V 32 [some (ZR 0), some (ZI what)] [] 284 σ
    refine zr_aload_n (pc := 32) hV dX11_so_32 rfl rfl ?_
    refine zr_getR (pc := 33) hV 5 140 dX11_so_33 fX11_48 rfl rfl (zc_k0 zc_s0) (zc_pos zc_s0 rfl) (zc_g0_5 hσ zc_s0) (by decide) ?_
    refine zr_getI (pc := 36) hV 8 dX11_so_36 fX11_203 rfl rfl (zc_k140 zc_s140) (zc_pos zc_s140 rfl) ?_
    have t2 := zc_g140_8 hσ zc_s140
    exact zr_iret (pc := 39) hV dX11_so_39 rfl rfl ⟨rfl, _, rfl, (by omega), (by omega)⟩
  by_cases c3 : what = 1
  · refine zr_eqI (V := V) 1 c3 ?_
    refine zr_tableIn (pc := 1) hV 40 dX11_so_1 ⟨by decide, by decide⟩ (by decide) (by decide) rfl (by decide) ?_
    show V 40 [some (ZR 0), some (ZI what)] [] 284 σ
    refine zr_aload_n (pc := 40) hV dX11_so_40 rfl rfl ?_
    refine zr_getR (pc := 41) hV 5 140 dX11_so_41 fX11_48 rfl rfl (zc_k0 zc_s0) (zc_pos zc_s0 rfl) (zc_g0_5 hσ zc_s0) (by decide) ?_
    refine zr_getI (pc := 44) hV 9 dX11_so_44 fX11_206 rfl rfl (zc_k140 zc_s140) (zc_pos zc_s140 rfl) ?_
    have t4 := zc_g140_9 hσ zc_s140
    exact zr_iret (pc := 47) hV dX11_so_47 rfl rfl ⟨rfl, _, rfl, (by omega), (by omega)⟩
  by_cases c5 : what = 2
  · refine zr_eqI (V := V) 2 c5 ?_
    refine zr_tableIn (pc := 1) hV 48 dX11_so_1 ⟨by decide, by decide⟩ (by decide) (by decide) rfl (by decide) ?_
    show V 48 [some (ZR 0), some (ZI what)] [] 284 σ
    refine zr_aload_n (pc := 48) hV dX11_so_48 rfl rfl ?_
    refine zr_getR (pc := 49) hV 5 140 dX11_so_49 fX11_48 rfl rfl (zc_k0 zc_s0) (zc_pos zc_s0 rfl) (zc_g0_5 hσ zc_s0) (by decide) ?_
    refine zr_getI (pc := 52) hV 10 dX11_so_52 fX11_209 rfl rfl (zc_k140 zc_s140) (zc_pos zc_s140 rfl) ?_
    have t6 := zc_g140_10 hσ zc_s140
    exact zr_iret (pc := 55) hV dX11_so_55 rfl rfl ⟨rfl, _, rfl, (by omega), (by omega)⟩
  by_cases c7 : what = 3
  · refine zr_eqI (V := V) 3 c7 ?_
    refine zr_tableIn (pc := 1) hV 56 dX11_so_1 ⟨by decide, by decide⟩ (by decide) (by decide) rfl (by decide) ?_
    show V 56 [some (ZR 0), some (ZI what)] [] 284 σ
    refine zr_aload_n (pc := 56) hV dX11_so_56 rfl rfl ?_
    refine zr_getR (pc := 57) hV 5 140 dX11_so_57 fX11_48 rfl rfl (zc_k0 zc_s0) (zc_pos zc_s0 rfl) (zc_g0_5 hσ zc_s0) (by decide) ?_
    refine zr_getI (pc := 60) hV 11 dX11_so_60 fX11_212 rfl rfl (zc_k140 zc_s140) (zc_pos zc_s140 rfl) ?_
    have t8 := zc_g140_11 hσ zc_s140
    exact zr_iret (pc := 63) hV dX11_so_63 rfl rfl ⟨rfl, _, rfl, (by omega), (by omega)⟩
  refine zr_tableOut (pc := 1) hV 64 dX11_so_1 (by omega) (by omega) (by decide) ?_
  show V 64 [some (ZR 0), some (ZI what)] [] 284 σ
  refine zr_iconst (pc := 64) hV (-1) dX11_so_64 rfl ?_
  exact zr_iret (pc := 65) hV dX11_so_65 rfl rfl ⟨rfl, _, rfl, ⟨by decide, by decide⟩, (by omega)⟩
set_option maxHeartbeats 800000 in
theorem c_X11_reset_3 {σ : zq_S} (hσ : zc_T σ)   (Uσ : zc_U σ) : zq_C zc_w yX11_reset cX11_reset 1 (some .int) 3 64 284 284 [ZR 0] σ (zq_pi (fun r τ => zc_T τ ∧ zc_Fr [(140, 5), (140, 8), (140, 9), (140, 10), (140, 11), (140, 13), (140, 14), (141, 3), (141, 4), (142, -1), (143, -1), (254, -1)] σ τ ∧ (r = 1 ∧ τ 141 3 = 0 ∧ τ 141 4 = 0 ∧ τ 140 5 = 0 ∧ τ 140 8 = 0 ∧ τ 140 9 = 0 ∧ τ 140 10 = 0 ∧ τ 140 11 = 0 ∧ τ 140 13 = 0 ∧ τ 140 14 = 0) ∧ zq_hid ((∀ i, 0 ≤ i → i < 8 → τ 142 i = 0) ∧ (∀ i, 0 ≤ i → i < 256 → τ 143 i = 0) ∧ (∀ i, 0 ≤ i → i < 64 → τ 254 i = (i + 1) % 64)) ∧ zc_U τ)) := by
  refine zq_C_of (by decide) (Nat.le_refl _) (Nat.le_of_ble_eq_true rfl) [some (ZR 0)] rfl (fun V hV => ?_)
  have hFσ := zc_Fr_rf [(140, 5), (140, 8), (140, 9), (140, 10), (140, 11), (140, 13), (140, 14), (141, 3), (141, 4), (142, -1), (143, -1), (254, -1)] σ
  show V 0 [some (ZR 0)] [] 284 σ
  refine zr_aload_n (pc := 0) hV dX11_reset_0 rfl rfl ?_
  refine zr_getR (pc := 1) hV 5 140 dX11_reset_1 fX11_48 rfl rfl (zc_k0 zc_s0) (zc_pos zc_s0 rfl) (zc_g0_5 hσ zc_s0) (by decide) ?_
  refine zr_callVv (pc := 4) hV [] (st := []) (c_X6_clear_3 (σ := σ) hσ) dX11_reset_4 mX11_194 (zc_k140 zc_s140) (zc_pos zc_s140 rfl) (by decide) (Nat.le_of_ble_eq_true rfl) (Nat.le_refl _) (fun σ4 pσ4 => ?_)
  obtain ⟨hσ4, hfσ4, pσ4, wσ4⟩ := pσ4
  have hFσ4 := zc_Fc hfσ4 rfl hFσ
  have Uσ4 : zc_U σ4 := zc_U_fr hfσ4 rfl hσ Uσ
  have t1 := zc_g140_10 hσ4 zc_s140
  have t2 := zc_g140_11 hσ4 zc_s140
  have t3 := zc_g140_13 hσ4 zc_s140
  have t4 := zc_g140_14 hσ4 zc_s140
  have t5 := zc_g140_5 hσ4 zc_s140
  have t6 := zc_g140_8 hσ4 zc_s140
  have t7 := zc_g140_9 hσ4 zc_s140
  have t8 := zc_g141_3 hσ4 zc_s141
  have t9 := zc_g141_4 hσ4 zc_s141
  refine zr_iconst (pc := 7) hV 1 dX11_reset_7 rfl ?_
  have t10 := zc_g140_10 hσ4 zc_s140
  have t11 := zc_g140_11 hσ4 zc_s140
  have t12 := zc_g140_13 hσ4 zc_s140
  have t13 := zc_g140_14 hσ4 zc_s140
  have t14 := zc_g140_5 hσ4 zc_s140
  have t15 := zc_g140_8 hσ4 zc_s140
  have t16 := zc_g140_9 hσ4 zc_s140
  have t17 := zc_g141_3 hσ4 zc_s141
  have t18 := zc_g141_4 hσ4 zc_s141
  exact zr_iret (pc := 8) hV dX11_reset_8 rfl rfl ⟨_, rfl, ⟨by decide, by decide⟩, hσ4, hFσ4, (by omega), (show (∀ i, 0 ≤ i → i < 8 → σ4 142 i = 0) ∧ (∀ i, 0 ≤ i → i < 256 → σ4 143 i = 0) ∧ (∀ i, 0 ≤ i → i < 64 → σ4 254 i = (i + 1) % 64) from wσ4), Uσ4⟩
set_option maxHeartbeats 800000 in
theorem c_X11_log_2 {σ : zq_S} (hσ : zc_T σ) (sheet : Int) (lane : Int) (from_ : Int) (n : Int) (q0 : zq_in sheet) (q1 : zq_in lane) (q2 : zq_in from_) (q3 : zq_in n) (q4 : zq_hid (zs_pc σ (σ 141 0))) (q5 : zq_hid (zw_ok (fun _ => 0) (zw_cs σ 141) (σ 141 0))) (Uσ : zc_U σ) : zq_C zc_w yX11_log cX11_log 6 (some .int) 7 157 284 284 [ZR 0, ZI sheet, ZI lane, ZI from_, ZI n] σ (zq_pi (fun r τ => zc_T τ ∧ zc_Fr [(147, 0), (147, 3), (147, 4), (147, 6), (148, -1), (149, -1), (150, -1), (151, -1), (152, -1)] σ τ ∧ (True) ∧ zq_hid ((¬ (0 ≤ sheet ∧ sheet ≤ 3 ∧ 0 ≤ lane ∧ lane ≤ 2 ∧ 0 ≤ n ∧ n ≤ 10) → r = -1) ∧ ((0 ≤ sheet ∧ sheet ≤ 3 ∧ 0 ≤ lane ∧ lane ≤ 2 ∧ 0 ≤ n ∧ n ≤ 10) → (σ 277 sheet ≠ lane → (σ 277 sheet < 0 → r = -11) ∧ (0 ≤ σ 277 sheet → r = -12)) ∧ (σ 277 sheet = lane → (¬ (0 ≤ from_ ∧ from_ ≤ σ 278 sheet - 3 * n) → r = -13) ∧ (0 ≤ from_ ∧ from_ ≤ σ 278 sheet - 3 * n → ∃ μ, zs_cp σ μ ∧ zs_rs (zs_lo (280 + sheet) from_) (fun μ => zs_can μ 147) (zs_Rt (280 + sheet) from_) n r μ)))) ∧ zc_U τ)) := by
  refine zq_C_of (by decide) (Nat.le_refl _) (Nat.le_of_ble_eq_true rfl) [some (ZR 0), some (ZI sheet), some (ZI lane), some (ZI from_), some (ZI n), none] rfl (fun V hV => ?_)
  have hFσ := zc_Fr_rf [(147, 0), (147, 3), (147, 4), (147, 6), (148, -1), (149, -1), (150, -1), (151, -1), (152, -1)] σ
  show V 0 [some (ZR 0), some (ZI sheet), some (ZI lane), some (ZI from_), some (ZI n), none] [] 284 σ
  refine zr_iload_n (pc := 0) hV dX11_log_0 rfl rfl ?_
  refine zr_callSp (pc := 1) hV [ZI sheet] (st := []) (c_X5_isSheet (σ := σ) sheet (by omega)) dX11_log_1 mX11_273 (by decide) (Nat.le_of_ble_eq_true rfl) (Nat.le_refl _) (fun r1 hr1 pr1 => ?_)
  refine zr_if_eq (pc := 4) hV 25 dX11_log_4 (by decide) (by omega) (fun c1 => ?_) (fun c1 => ?_)
  · show V 25 [some (ZR 0), some (ZI sheet), some (ZI lane), some (ZI from_), some (ZI n), none] [] 284 σ
    refine zr_iconst (pc := 25) hV (-1) dX11_log_25 rfl ?_
    exact zr_iret (pc := 26) hV dX11_log_26 rfl rfl ⟨_, rfl, ⟨by decide, by decide⟩, hσ, hFσ, trivial, (show (¬ (0 ≤ sheet ∧ sheet ≤ 3 ∧ 0 ≤ lane ∧ lane ≤ 2 ∧ 0 ≤ n ∧ n ≤ 10) → ((-1) : Int) = -1) ∧ ((0 ≤ sheet ∧ sheet ≤ 3 ∧ 0 ≤ lane ∧ lane ≤ 2 ∧ 0 ≤ n ∧ n ≤ 10) → (σ 277 sheet ≠ lane → (σ 277 sheet < 0 → ((-1) : Int) = -11) ∧ (0 ≤ σ 277 sheet → ((-1) : Int) = -12)) ∧ (σ 277 sheet = lane → (¬ (0 ≤ from_ ∧ from_ ≤ σ 278 sheet - 3 * n) → ((-1) : Int) = -13) ∧ (0 ≤ from_ ∧ from_ ≤ σ 278 sheet - 3 * n → ∃ μ, zs_cp σ μ ∧ zs_rs (zs_lo (280 + sheet) from_) (fun μ => zs_can μ 147) (zs_Rt (280 + sheet) from_) n ((-1) : Int) μ))) from ⟨fun _ => rfl, fun h => absurd h (by omega)⟩), Uσ⟩
  · show V 7 [some (ZR 0), some (ZI sheet), some (ZI lane), some (ZI from_), some (ZI n), none] [] 284 σ
    refine zr_iload_n (pc := 7) hV dX11_log_7 rfl rfl ?_
    refine zr_callSp (pc := 8) hV [ZI lane] (st := []) (c_X5_isLane (σ := σ) lane (by omega)) dX11_log_8 mX11_276 (by decide) (Nat.le_of_ble_eq_true rfl) (Nat.le_refl _) (fun r8 hr8 pr8 => ?_)
    refine zr_if_eq (pc := 11) hV 25 dX11_log_11 (by decide) (by omega) (fun c2 => ?_) (fun c2 => ?_)
    · show V 25 [some (ZR 0), some (ZI sheet), some (ZI lane), some (ZI from_), some (ZI n), none] [] 284 σ
      refine zr_iconst (pc := 25) hV (-1) dX11_log_25 rfl ?_
      exact zr_iret (pc := 26) hV dX11_log_26 rfl rfl ⟨_, rfl, ⟨by decide, by decide⟩, hσ, hFσ, trivial, (show (¬ (0 ≤ sheet ∧ sheet ≤ 3 ∧ 0 ≤ lane ∧ lane ≤ 2 ∧ 0 ≤ n ∧ n ≤ 10) → ((-1) : Int) = -1) ∧ ((0 ≤ sheet ∧ sheet ≤ 3 ∧ 0 ≤ lane ∧ lane ≤ 2 ∧ 0 ≤ n ∧ n ≤ 10) → (σ 277 sheet ≠ lane → (σ 277 sheet < 0 → ((-1) : Int) = -11) ∧ (0 ≤ σ 277 sheet → ((-1) : Int) = -12)) ∧ (σ 277 sheet = lane → (¬ (0 ≤ from_ ∧ from_ ≤ σ 278 sheet - 3 * n) → ((-1) : Int) = -13) ∧ (0 ≤ from_ ∧ from_ ≤ σ 278 sheet - 3 * n → ∃ μ, zs_cp σ μ ∧ zs_rs (zs_lo (280 + sheet) from_) (fun μ => zs_can μ 147) (zs_Rt (280 + sheet) from_) n ((-1) : Int) μ))) from ⟨fun _ => rfl, fun h => absurd h (by omega)⟩), Uσ⟩
    · show V 14 [some (ZR 0), some (ZI sheet), some (ZI lane), some (ZI from_), some (ZI n), none] [] 284 σ
      refine zr_iload (pc := 14) hV dX11_log_14 rfl ?_
      refine zr_iconst (pc := 16) hV 0 dX11_log_16 rfl ?_
      refine zr_bipush (pc := 17) hV 10 dX11_log_17 (by decide) ?_
      refine zr_callSp (pc := 19) hV [ZI n, ZI 0, ZI 10] (st := []) (c_X11_within (σ := σ) n 0 10 (by omega) (by omega) (by omega)) dX11_log_19 mX11_89 (by decide) (Nat.le_of_ble_eq_true rfl) (Nat.le_refl _) (fun r19 hr19 pr19 => ?_)
      refine zr_if_ne (pc := 22) hV 27 dX11_log_22 (by decide) (by omega) (fun c3 => ?_) (fun c3 => ?_)
      · show V 27 [some (ZR 0), some (ZI sheet), some (ZI lane), some (ZI from_), some (ZI n), none] [] 284 σ
        refine zr_aload_n (pc := 27) hV dX11_log_27 rfl rfl ?_
        refine zr_getR (pc := 28) hV 7 276 dX11_log_28 fX11_64 rfl rfl (zc_k0 zc_s0) (zc_pos zc_s0 rfl) (zc_g0_7 hσ zc_s0) (by decide) ?_
        refine zr_iload_n (pc := 31) hV dX11_log_31 rfl rfl ?_
        refine zr_iload_n (pc := 32) hV dX11_log_32 rfl rfl ?_
        refine zr_iload_n (pc := 33) hV dX11_log_33 rfl rfl ?_
        refine zr_iconst (pc := 34) hV 3 dX11_log_34 rfl ?_
        refine zr_iload (pc := 35) hV dX11_log_35 rfl ?_
        refine zr_imul (pc := 37) hV dX11_log_37 ?_
        refine zr_callVp (pc := 38) hV [ZI sheet, ZI lane, ZI from_, ZI (3 * n)] (st := []) (c_X5_refusal_2 (σ := σ) hσ sheet lane from_ (3 * n) (by omega) (by omega) (by omega) (by omega)) dX11_log_38 mX11_279 (zc_k276 zc_s276) (zc_pos zc_s276 rfl) (by decide) (Nat.le_of_ble_eq_true rfl) (Nat.le_refl _) (fun r38 hr38 pr38 => ?_)
        refine zr_istore (pc := 41) hV [some (ZR 0), some (ZI sheet), some (ZI lane), some (ZI from_), some (ZI n), some (ZI r38)] dX11_log_41 (by decide) rfl rfl ?_
        refine zr_iload (pc := 43) hV dX11_log_43 rfl ?_
        refine zr_if_ge (pc := 45) hV 53 dX11_log_45 (by decide) (by omega) (fun c4 => ?_) (fun c4 => ?_)
        · show V 53 [some (ZR 0), some (ZI sheet), some (ZI lane), some (ZI from_), some (ZI n), some (ZI r38)] [] 284 σ
          refine zr_aload_n (pc := 53) hV dX11_log_53 rfl rfl ?_
          refine zr_getR (pc := 54) hV 5 140 dX11_log_54 fX11_48 rfl rfl (zc_k0 zc_s0) (zc_pos zc_s0 rfl) (zc_g0_5 hσ zc_s0) (by decide) ?_
          refine zr_aload_n (pc := 57) hV dX11_log_57 rfl rfl ?_
          refine zr_getR (pc := 58) hV 7 276 dX11_log_58 fX11_64 rfl rfl (zc_k0 zc_s0) (zc_pos zc_s0 rfl) (zc_g0_7 hσ zc_s0) (by decide) ?_
          refine zr_getR (pc := 61) hV 2 279 dX11_log_61 fX11_283 rfl rfl (zc_k276 zc_s276) (zc_pos zc_s276 rfl) (zc_g276_2 hσ zc_s276) (by decide) ?_
          refine zr_iload_n (pc := 64) hV dX11_log_64 rfl rfl ?_
          have ga65 : σ 279 sheet = 280 + sheet := zc_ga279 hσ zc_s279 sheet (by omega) (by omega)
          refine zr_aald (pc := 65) hV dX11_log_65 (zc_k279 zc_s279) (Or.inr rfl) (zc_pos zc_s279 rfl) rfl (by omega) (by omega) ?_
          obtain ⟨o65, eo65⟩ : ∃ o, σ 279 sheet = o := ⟨_, rfl⟩
          rw [eo65] at ga65 ⊢
          have ko65 : zc_kd o65 = 280 := ga65 ▸ zc_e280 (by omega) (by omega)
          have po65 := zc_pos ko65 rfl
          show V 66 [some (ZR 0), some (ZI sheet), some (ZI lane), some (ZI from_), some (ZI n), some (ZI r38)] [ZR o65, ZR 140] 284 σ
          refine zr_iload_n (pc := 66) hV dX11_log_66 rfl rfl ?_
          refine zr_iload (pc := 67) hV dX11_log_67 rfl ?_
          have t5 := zc_g141_0 hσ zc_s141
          have t6 := zc_g141_0 hσ zc_s141
          refine zr_callVi (pc := 69) hV [ZR o65, ZI from_, ZI n] (st := []) (c_X6_holdAgainst_2 (σ := σ) hσ o65 ko65 from_ n (by omega) (by omega) (by omega) q4 q5) dX11_log_69 mX11_287 (zc_k140 zc_s140) (zc_pos zc_s140 rfl) (by decide) (Nat.le_of_ble_eq_true rfl) (Nat.le_refl _) (fun r69 σ69 hr69 pσ69 => ?_)
          obtain ⟨hσ69, hfσ69, pσ69, wσ69⟩ := pσ69
          have hFσ69 := zc_Fc hfσ69 rfl hFσ
          have Uσ69 : zc_U σ69 := zc_U_fr hfσ69 rfl hσ Uσ
          show V 72 [some (ZR 0), some (ZI sheet), some (ZI lane), some (ZI from_), some (ZI n), some (ZI r38)] [ZI r69] 284 σ69
          exact zr_iret (pc := 72) hV dX11_log_72 rfl rfl ⟨_, rfl, (by omega), hσ69, hFσ69, trivial, (show (¬ (0 ≤ sheet ∧ sheet ≤ 3 ∧ 0 ≤ lane ∧ lane ≤ 2 ∧ 0 ≤ n ∧ n ≤ 10) → r69 = -1) ∧ ((0 ≤ sheet ∧ sheet ≤ 3 ∧ 0 ≤ lane ∧ lane ≤ 2 ∧ 0 ≤ n ∧ n ≤ 10) → (σ 277 sheet ≠ lane → (σ 277 sheet < 0 → r69 = -11) ∧ (0 ≤ σ 277 sheet → r69 = -12)) ∧ (σ 277 sheet = lane → (¬ (0 ≤ from_ ∧ from_ ≤ σ 278 sheet - 3 * n) → r69 = -13) ∧ (0 ≤ from_ ∧ from_ ≤ σ 278 sheet - 3 * n → ∃ μ, zs_cp σ μ ∧ zs_rs (zs_lo (280 + sheet) from_) (fun μ => zs_can μ 147) (zs_Rt (280 + sheet) from_) n r69 μ))) from ⟨fun h => absurd (by omega) h, fun _ => ⟨fun h => by exfalso; omega, fun h => ⟨fun h2 => by exfalso; omega, fun _ => by have w := wσ69; unfold zq_hid at w; rw [ga65] at w; exact w⟩⟩⟩), Uσ69⟩
        · show V 48 [some (ZR 0), some (ZI sheet), some (ZI lane), some (ZI from_), some (ZI n), some (ZI r38)] [] 284 σ
          refine zr_iload (pc := 48) hV dX11_log_48 rfl ?_
          refine zr_goto (pc := 50) hV 72 dX11_log_50 (by decide) ?_
          show V 72 [some (ZR 0), some (ZI sheet), some (ZI lane), some (ZI from_), some (ZI n), some (ZI r38)] [ZI r38] 284 σ
          exact zr_iret (pc := 72) hV dX11_log_72 rfl rfl ⟨_, rfl, (by omega), hσ, hFσ, trivial, (show (¬ (0 ≤ sheet ∧ sheet ≤ 3 ∧ 0 ≤ lane ∧ lane ≤ 2 ∧ 0 ≤ n ∧ n ≤ 10) → r38 = -1) ∧ ((0 ≤ sheet ∧ sheet ≤ 3 ∧ 0 ≤ lane ∧ lane ≤ 2 ∧ 0 ≤ n ∧ n ≤ 10) → (σ 277 sheet ≠ lane → (σ 277 sheet < 0 → r38 = -11) ∧ (0 ≤ σ 277 sheet → r38 = -12)) ∧ (σ 277 sheet = lane → (¬ (0 ≤ from_ ∧ from_ ≤ σ 278 sheet - 3 * n) → r38 = -13) ∧ (0 ≤ from_ ∧ from_ ≤ σ 278 sheet - 3 * n → ∃ μ, zs_cp σ μ ∧ zs_rs (zs_lo (280 + sheet) from_) (fun μ => zs_can μ 147) (zs_Rt (280 + sheet) from_) n r38 μ))) from ⟨fun h => absurd (by omega) h, fun _ => ⟨fun h => ⟨fun h2 => by omega, fun h2 => by omega⟩, fun h => ⟨fun h2 => by omega, fun h2 => by exfalso; omega⟩⟩⟩), Uσ⟩
      · show V 25 [some (ZR 0), some (ZI sheet), some (ZI lane), some (ZI from_), some (ZI n), none] [] 284 σ
        refine zr_iconst (pc := 25) hV (-1) dX11_log_25 rfl ?_
        exact zr_iret (pc := 26) hV dX11_log_26 rfl rfl ⟨_, rfl, ⟨by decide, by decide⟩, hσ, hFσ, trivial, (show (¬ (0 ≤ sheet ∧ sheet ≤ 3 ∧ 0 ≤ lane ∧ lane ≤ 2 ∧ 0 ≤ n ∧ n ≤ 10) → ((-1) : Int) = -1) ∧ ((0 ≤ sheet ∧ sheet ≤ 3 ∧ 0 ≤ lane ∧ lane ≤ 2 ∧ 0 ≤ n ∧ n ≤ 10) → (σ 277 sheet ≠ lane → (σ 277 sheet < 0 → ((-1) : Int) = -11) ∧ (0 ≤ σ 277 sheet → ((-1) : Int) = -12)) ∧ (σ 277 sheet = lane → (¬ (0 ≤ from_ ∧ from_ ≤ σ 278 sheet - 3 * n) → ((-1) : Int) = -13) ∧ (0 ≤ from_ ∧ from_ ≤ σ 278 sheet - 3 * n → ∃ μ, zs_cp σ μ ∧ zs_rs (zs_lo (280 + sheet) from_) (fun μ => zs_can μ 147) (zs_Rt (280 + sheet) from_) n ((-1) : Int) μ))) from ⟨fun _ => rfl, fun h => absurd h (by omega)⟩), Uσ⟩
