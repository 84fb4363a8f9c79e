set_option maxHeartbeats 800000 in
theorem c_X3_clear_2 {σ : zq_S} (hσ : zc_T σ) (this : Int) (kthis : zc_kd this = 4)  : zq_C zc_w yX3_clear cX3_clear 1 (none) 1 23 284 284 [ZR this] σ (zq_pv (fun τ => zc_T τ ∧ zc_Fr [(4, 0), (4, 1), (4, 2), (4, 4), (4, 5), (4, 6), (4, 11), (4, 12), (4, 13), (4, 14), (4, 15), (4, 16), (5, -1)] σ τ ∧ zd_Own this σ τ ∧ (τ this 0 = 0 ∧ τ this 1 = 0 ∧ τ this 2 = 0 ∧ τ this 4 = 0 ∧ τ this 5 = 0 ∧ τ this 6 = 0 ∧ τ this 11 = 0 ∧ τ this 12 = 0 ∧ τ this 13 = 0 ∧ τ this 14 = 0 ∧ τ this 15 = -1 ∧ τ this 16 = -1) ∧ zq_hid (∀ j, 0 ≤ j → j ≤ 3 → τ (this + 1) j = 0))) := by
  refine zq_C_of (by decide) (Nat.le_refl _) (Nat.le_of_ble_eq_true rfl) [some (ZR this)] rfl (fun V hV => ?_)
  have pothis := zc_pos kthis rfl
  have hFσ := zc_Fr_rf [(4, 0), (4, 1), (4, 2), (4, 4), (4, 5), (4, 6), (4, 11), (4, 12), (4, 13), (4, 14), (4, 15), (4, 16), (5, -1)] σ
  have hOσ := zd_Own_rf this σ
  show V 0 [some (ZR this)] [] 284 σ
  refine zr_aload_n (pc := 0) hV dX3_clear_0 rfl rfl ?_
  refine zr_iconst (pc := 1) hV 0 dX3_clear_1 rfl ?_
  refine zr_putI (pc := 2) hV 0 dX3_clear_2 fX3_27 rfl rfl rfl (zc_k4 kthis) (zc_pos kthis rfl) (fun σ2 eσ2 => ?_)
  have hσ2 : zc_T σ2 := zc_u4_0 eσ2 hσ kthis (by omega)
  have hFσ2 := zc_Fw eσ2 kthis rfl hFσ
  have hOσ2 := zd_Ow eσ2 (by omega) hOσ
  refine zr_aload_n (pc := 5) hV dX3_clear_5 rfl rfl ?_
  refine zr_iconst (pc := 6) hV 0 dX3_clear_6 rfl ?_
  refine zr_putI (pc := 7) hV 1 dX3_clear_7 fX3_31 rfl rfl rfl (zc_k4 kthis) (zc_pos kthis rfl) (fun σ7 eσ7 => ?_)
  have hσ7 : zc_T σ7 := zc_u4_1 eσ7 hσ2 kthis (by omega)
  have hFσ7 := zc_Fw eσ7 kthis rfl hFσ2
  have hOσ7 := zd_Ow eσ7 (by omega) hOσ2
  refine zr_aload_n (pc := 10) hV dX3_clear_10 rfl rfl ?_
  refine zr_iconst (pc := 11) hV 0 dX3_clear_11 rfl ?_
  refine zr_putI (pc := 12) hV 2 dX3_clear_12 fX3_34 rfl rfl rfl (zc_k4 kthis) (zc_pos kthis rfl) (fun σ12 eσ12 => ?_)
  have hσ12 : zc_T σ12 := zc_u4_2 eσ12 hσ7 kthis (by omega)
  have hFσ12 := zc_Fw eσ12 kthis rfl hFσ7
  have hOσ12 := zd_Ow eσ12 (by omega) hOσ7
  refine zr_aload_n (pc := 15) hV dX3_clear_15 rfl rfl ?_
  refine zr_getR (pc := 16) hV 3 (this + 1) dX3_clear_16 fX3_9 rfl rfl (zc_k4 kthis) (zc_pos kthis rfl) (zc_g4_3 hσ12 kthis) (zc_pos (zc_p4_1 kthis) rfl).1 ?_
  refine zr_iconst (pc := 19) hV 0 dX3_clear_19 rfl ?_
  refine zr_callSv (pc := 20) hV [ZR (this + 1), ZI 0] (st := []) (c_fill (σ := σ12) hσ12 (this + 1) 0 (zc_p4_1 kthis) rfl rfl ⟨by decide, by decide⟩ (fun _ => ⟨by omega, by omega⟩)) dX3_clear_20 mX3_37 (by decide) (Nat.le_of_ble_eq_true rfl) (Nat.le_refl _) (fun σ20 pσ20 => ?_)
  obtain ⟨hσ20, hfσ20, pσ20⟩ := pσ20
  have hFσ20 := zc_Fc hfσ20 rfl hFσ12
  have hOσ20 := zd_Of pσ20.2 (by omega) hOσ12
  refine zr_aload_n (pc := 23) hV dX3_clear_23 rfl rfl ?_
  refine zr_iconst (pc := 24) hV 0 dX3_clear_24 rfl ?_
  refine zr_putI (pc := 25) hV 4 dX3_clear_25 fX3_43 rfl rfl rfl (zc_k4 kthis) (zc_pos kthis rfl) (fun σ25 eσ25 => ?_)
  have hσ25 : zc_T σ25 := zc_u4_4 eσ25 hσ20 kthis (by omega)
  have hFσ25 := zc_Fw eσ25 kthis rfl hFσ20
  have hOσ25 := zd_Ow eσ25 (by omega) hOσ20
  refine zr_aload_n (pc := 28) hV dX3_clear_28 rfl rfl ?_
  refine zr_iconst (pc := 29) hV 0 dX3_clear_29 rfl ?_
  refine zr_putI (pc := 30) hV 5 dX3_clear_30 fX3_46 rfl rfl rfl (zc_k4 kthis) (zc_pos kthis rfl) (fun σ30 eσ30 => ?_)
  have hσ30 : zc_T σ30 := zc_u4_5 eσ30 hσ25 kthis (by omega)
  have hFσ30 := zc_Fw eσ30 kthis rfl hFσ25
  have hOσ30 := zd_Ow eσ30 (by omega) hOσ25
  refine zr_aload_n (pc := 33) hV dX3_clear_33 rfl rfl ?_
  refine zr_iconst (pc := 34) hV 0 dX3_clear_34 rfl ?_
  refine zr_putI (pc := 35) hV 6 dX3_clear_35 fX3_49 rfl rfl rfl (zc_k4 kthis) (zc_pos kthis rfl) (fun σ35 eσ35 => ?_)
  have hσ35 : zc_T σ35 := zc_u4_6 eσ35 hσ30 kthis (by omega)
  have hFσ35 := zc_Fw eσ35 kthis rfl hFσ30
  have hOσ35 := zd_Ow eσ35 (by omega) hOσ30
  refine zr_aload_n (pc := 38) hV dX3_clear_38 rfl rfl ?_
  refine zr_iconst (pc := 39) hV 0 dX3_clear_39 rfl ?_
  refine zr_putI (pc := 40) hV 11 dX3_clear_40 fX3_52 rfl rfl rfl (zc_k4 kthis) (zc_pos kthis rfl) (fun σ40 eσ40 => ?_)
  have hσ40 : zc_T σ40 := zc_u4_11 eσ40 hσ35 kthis (by omega)
  have hFσ40 := zc_Fw eσ40 kthis rfl hFσ35
  have hOσ40 := zd_Ow eσ40 (by omega) hOσ35
  refine zr_aload_n (pc := 43) hV dX3_clear_43 rfl rfl ?_
  refine zr_iconst (pc := 44) hV 0 dX3_clear_44 rfl ?_
  refine zr_putI (pc := 45) hV 12 dX3_clear_45 fX3_55 rfl rfl rfl (zc_k4 kthis) (zc_pos kthis rfl) (fun σ45 eσ45 => ?_)
  have hσ45 : zc_T σ45 := zc_u4_12 eσ45 hσ40 kthis (by omega)
  have hFσ45 := zc_Fw eσ45 kthis rfl hFσ40
  have hOσ45 := zd_Ow eσ45 (by omega) hOσ40
  refine zr_aload_n (pc := 48) hV dX3_clear_48 rfl rfl ?_
  refine zr_iconst (pc := 49) hV 0 dX3_clear_49 rfl ?_
  refine zr_putI (pc := 50) hV 13 dX3_clear_50 fX3_58 rfl rfl rfl (zc_k4 kthis) (zc_pos kthis rfl) (fun σ50 eσ50 => ?_)
  have hσ50 : zc_T σ50 := zc_u4_13 eσ50 hσ45 kthis (by omega)
  have hFσ50 := zc_Fw eσ50 kthis rfl hFσ45
  have hOσ50 := zd_Ow eσ50 (by omega) hOσ45
  refine zr_aload_n (pc := 53) hV dX3_clear_53 rfl rfl ?_
  refine zr_iconst (pc := 54) hV 0 dX3_clear_54 rfl ?_
  refine zr_putI (pc := 55) hV 14 dX3_clear_55 fX3_61 rfl rfl rfl (zc_k4 kthis) (zc_pos kthis rfl) (fun σ55 eσ55 => ?_)
  have hσ55 : zc_T σ55 := zc_u4_14 eσ55 hσ50 kthis (by omega)
  have hFσ55 := zc_Fw eσ55 kthis rfl hFσ50
  have hOσ55 := zd_Ow eσ55 (by omega) hOσ50
  refine zr_aload_n (pc := 58) hV dX3_clear_58 rfl rfl ?_
  refine zr_iconst (pc := 59) hV (-1) dX3_clear_59 rfl ?_
  refine zr_putI (pc := 60) hV 15 dX3_clear_60 fX3_64 rfl rfl rfl (zc_k4 kthis) (zc_pos kthis rfl) (fun σ60 eσ60 => ?_)
  have hσ60 : zc_T σ60 := zc_u4_15 eσ60 hσ55 kthis (by omega)
  have hFσ60 := zc_Fw eσ60 kthis rfl hFσ55
  have hOσ60 := zd_Ow eσ60 (by omega) hOσ55
  refine zr_aload_n (pc := 63) hV dX3_clear_63 rfl rfl ?_
  refine zr_iconst (pc := 64) hV (-1) dX3_clear_64 rfl ?_
  refine zr_putI (pc := 65) hV 16 dX3_clear_65 fX3_67 rfl rfl rfl (zc_k4 kthis) (zc_pos kthis rfl) (fun σ65 eσ65 => ?_)
  have hσ65 : zc_T σ65 := zc_u4_16 eσ65 hσ60 kthis (by omega)
  have hFσ65 := zc_Fw eσ65 kthis rfl hFσ60
  have hOσ65 := zd_Ow eσ65 (by omega) hOσ60
  have t1 := zc_g4_0 hσ65 kthis
  have t2 : σ65 this 0 = σ60 this 0 := by rw [eσ65]; exact zq_up_ne (by omega)
  have t3 : σ60 this 0 = σ55 this 0 := by rw [eσ60]; exact zq_up_ne (by omega)
  have t4 : σ55 this 0 = σ50 this 0 := by rw [eσ55]; exact zq_up_ne (by omega)
  have t5 : σ50 this 0 = σ45 this 0 := by rw [eσ50]; exact zq_up_ne (by omega)
  have t6 : σ45 this 0 = σ40 this 0 := by rw [eσ45]; exact zq_up_ne (by omega)
  have t7 : σ40 this 0 = σ35 this 0 := by rw [eσ40]; exact zq_up_ne (by omega)
  have t8 : σ35 this 0 = σ30 this 0 := by rw [eσ35]; exact zq_up_ne (by omega)
  have t9 : σ30 this 0 = σ25 this 0 := by rw [eσ30]; exact zq_up_ne (by omega)
  have t10 : σ25 this 0 = σ20 this 0 := by rw [eσ25]; exact zq_up_ne (by omega)
  have t11 : σ20 this 0 = σ12 this 0 := hfσ20 _ _ (zc_out_at kthis rfl)
  have t12 : σ12 this 0 = σ7 this 0 := by rw [eσ12]; exact zq_up_ne (by omega)
  have t13 : σ7 this 0 = σ2 this 0 := by rw [eσ7]; exact zq_up_ne (by omega)
  have t14 : σ2 this 0 = 0 := by rw [eσ2]; exact zq_up_same _ _ _ _
  have t15 := zc_g4_1 hσ65 kthis
  have t16 : σ65 this 1 = σ60 this 1 := by rw [eσ65]; exact zq_up_ne (by omega)
  have t17 : σ60 this 1 = σ55 this 1 := by rw [eσ60]; exact zq_up_ne (by omega)
  have t18 : σ55 this 1 = σ50 this 1 := by rw [eσ55]; exact zq_up_ne (by omega)
  have t19 : σ50 this 1 = σ45 this 1 := by rw [eσ50]; exact zq_up_ne (by omega)
  have t20 : σ45 this 1 = σ40 this 1 := by rw [eσ45]; exact zq_up_ne (by omega)
  have t21 : σ40 this 1 = σ35 this 1 := by rw [eσ40]; exact zq_up_ne (by omega)
  have t22 : σ35 this 1 = σ30 this 1 := by rw [eσ35]; exact zq_up_ne (by omega)
  have t23 : σ30 this 1 = σ25 this 1 := by rw [eσ30]; exact zq_up_ne (by omega)
  have t24 : σ25 this 1 = σ20 this 1 := by rw [eσ25]; exact zq_up_ne (by omega)
  have t25 : σ20 this 1 = σ12 this 1 := hfσ20 _ _ (zc_out_at kthis rfl)
  have t26 : σ12 this 1 = σ7 this 1 := by rw [eσ12]; exact zq_up_ne (by omega)
  have t27 : σ7 this 1 = 0 := by rw [eσ7]; exact zq_up_same _ _ _ _
  have t28 := zc_g4_11 hσ65 kthis
  have t29 : σ65 this 11 = σ60 this 11 := by rw [eσ65]; exact zq_up_ne (by omega)
  have t30 : σ60 this 11 = σ55 this 11 := by rw [eσ60]; exact zq_up_ne (by omega)
  have t31 : σ55 this 11 = σ50 this 11 := by rw [eσ55]; exact zq_up_ne (by omega)
  have t32 : σ50 this 11 = σ45 this 11 := by rw [eσ50]; exact zq_up_ne (by omega)
  have t33 : σ45 this 11 = σ40 this 11 := by rw [eσ45]; exact zq_up_ne (by omega)
  have t34 : σ40 this 11 = 0 := by rw [eσ40]; exact zq_up_same _ _ _ _
  have t35 := zc_g4_12 hσ65 kthis
  have t36 : σ65 this 12 = σ60 this 12 := by rw [eσ65]; exact zq_up_ne (by omega)
  have t37 : σ60 this 12 = σ55 this 12 := by rw [eσ60]; exact zq_up_ne (by omega)
  have t38 : σ55 this 12 = σ50 this 12 := by rw [eσ55]; exact zq_up_ne (by omega)
  have t39 : σ50 this 12 = σ45 this 12 := by rw [eσ50]; exact zq_up_ne (by omega)
  have t40 : σ45 this 12 = 0 := by rw [eσ45]; exact zq_up_same _ _ _ _
  have t41 := zc_g4_13 hσ65 kthis
  have t42 : σ65 this 13 = σ60 this 13 := by rw [eσ65]; exact zq_up_ne (by omega)
  have t43 : σ60 this 13 = σ55 this 13 := by rw [eσ60]; exact zq_up_ne (by omega)
  have t44 : σ55 this 13 = σ50 this 13 := by rw [eσ55]; exact zq_up_ne (by omega)
  have t45 : σ50 this 13 = 0 := by rw [eσ50]; exact zq_up_same _ _ _ _
  have t46 := zc_g4_14 hσ65 kthis
  have t47 : σ65 this 14 = σ60 this 14 := by rw [eσ65]; exact zq_up_ne (by omega)
  have t48 : σ60 this 14 = σ55 this 14 := by rw [eσ60]; exact zq_up_ne (by omega)
  have t49 : σ55 this 14 = 0 := by rw [eσ55]; exact zq_up_same _ _ _ _
  have t50 := zc_g4_15 hσ65 kthis
  have t51 : σ65 this 15 = σ60 this 15 := by rw [eσ65]; exact zq_up_ne (by omega)
  have t52 : σ60 this 15 = (-1) := by rw [eσ60]; exact zq_up_same _ _ _ _
  have t53 := zc_g4_16 hσ65 kthis
  have t54 : σ65 this 16 = (-1) := by rw [eσ65]; exact zq_up_same _ _ _ _
  have t55 := zc_g4_2 hσ65 kthis
  have t56 : σ65 this 2 = σ60 this 2 := by rw [eσ65]; exact zq_up_ne (by omega)
  have t57 : σ60 this 2 = σ55 this 2 := by rw [eσ60]; exact zq_up_ne (by omega)
  have t58 : σ55 this 2 = σ50 this 2 := by rw [eσ55]; exact zq_up_ne (by omega)
  have t59 : σ50 this 2 = σ45 this 2 := by rw [eσ50]; exact zq_up_ne (by omega)
  have t60 : σ45 this 2 = σ40 this 2 := by rw [eσ45]; exact zq_up_ne (by omega)
  have t61 : σ40 this 2 = σ35 this 2 := by rw [eσ40]; exact zq_up_ne (by omega)
  have t62 : σ35 this 2 = σ30 this 2 := by rw [eσ35]; exact zq_up_ne (by omega)
  have t63 : σ30 this 2 = σ25 this 2 := by rw [eσ30]; exact zq_up_ne (by omega)
  have t64 : σ25 this 2 = σ20 this 2 := by rw [eσ25]; exact zq_up_ne (by omega)
  have t65 : σ20 this 2 = σ12 this 2 := hfσ20 _ _ (zc_out_at kthis rfl)
  have t66 : σ12 this 2 = 0 := by rw [eσ12]; exact zq_up_same _ _ _ _
  have t67 := zc_g4_4 hσ65 kthis
  have t68 : σ65 this 4 = σ60 this 4 := by rw [eσ65]; exact zq_up_ne (by omega)
  have t69 : σ60 this 4 = σ55 this 4 := by rw [eσ60]; exact zq_up_ne (by omega)
  have t70 : σ55 this 4 = σ50 this 4 := by rw [eσ55]; exact zq_up_ne (by omega)
  have t71 : σ50 this 4 = σ45 this 4 := by rw [eσ50]; exact zq_up_ne (by omega)
  have t72 : σ45 this 4 = σ40 this 4 := by rw [eσ45]; exact zq_up_ne (by omega)
  have t73 : σ40 this 4 = σ35 this 4 := by rw [eσ40]; exact zq_up_ne (by omega)
  have t74 : σ35 this 4 = σ30 this 4 := by rw [eσ35]; exact zq_up_ne (by omega)
  have t75 : σ30 this 4 = σ25 this 4 := by rw [eσ30]; exact zq_up_ne (by omega)
  have t76 : σ25 this 4 = 0 := by rw [eσ25]; exact zq_up_same _ _ _ _
  have t77 := zc_g4_5 hσ65 kthis
  have t78 : σ65 this 5 = σ60 this 5 := by rw [eσ65]; exact zq_up_ne (by omega)
  have t79 : σ60 this 5 = σ55 this 5 := by rw [eσ60]; exact zq_up_ne (by omega)
  have t80 : σ55 this 5 = σ50 this 5 := by rw [eσ55]; exact zq_up_ne (by omega)
  have t81 : σ50 this 5 = σ45 this 5 := by rw [eσ50]; exact zq_up_ne (by omega)
  have t82 : σ45 this 5 = σ40 this 5 := by rw [eσ45]; exact zq_up_ne (by omega)
  have t83 : σ40 this 5 = σ35 this 5 := by rw [eσ40]; exact zq_up_ne (by omega)
  have t84 : σ35 this 5 = σ30 this 5 := by rw [eσ35]; exact zq_up_ne (by omega)
  have t85 : σ30 this 5 = 0 := by rw [eσ30]; exact zq_up_same _ _ _ _
  have t86 := zc_g4_6 hσ65 kthis
  have t87 : σ65 this 6 = σ60 this 6 := by rw [eσ65]; exact zq_up_ne (by omega)
  have t88 : σ60 this 6 = σ55 this 6 := by rw [eσ60]; exact zq_up_ne (by omega)
  have t89 : σ55 this 6 = σ50 this 6 := by rw [eσ55]; exact zq_up_ne (by omega)
  have t90 : σ50 this 6 = σ45 this 6 := by rw [eσ50]; exact zq_up_ne (by omega)
  have t91 : σ45 this 6 = σ40 this 6 := by rw [eσ45]; exact zq_up_ne (by omega)
  have t92 : σ40 this 6 = σ35 this 6 := by rw [eσ40]; exact zq_up_ne (by omega)
  have t93 : σ35 this 6 = 0 := by rw [eσ35]; exact zq_up_same _ _ _ _
  exact zr_vret (pc := 68) hV dX3_clear_68 rfl rfl ⟨rfl, hσ65, hFσ65, hOσ65, (by omega), (show ∀ j, 0 ≤ j → j ≤ 3 → σ65 (this + 1) j = 0 from (fun j h0 h3 => by rw [eσ65, zq_up_ne (by omega), eσ60, zq_up_ne (by omega), eσ55, zq_up_ne (by omega), eσ50, zq_up_ne (by omega), eσ45, zq_up_ne (by omega), eσ40, zq_up_ne (by omega), eσ35, zq_up_ne (by omega), eσ30, zq_up_ne (by omega), eσ25, zq_up_ne (by omega)]; exact pσ20.1 j h0 (by omega)))⟩
set_option maxHeartbeats 800000 in
theorem c_X3_namedBy_2 {σ : zq_S} (operand : Int) (q0 : zq_in operand) : zq_C zc_w yX3_namedBy cX3_namedBy 1 (some .int) 0 0 284 284 [ZI operand] σ (zq_pp σ (fun r => r = zt_nmb operand)) := by
  refine zq_C_of (by decide) (Nat.le_refl _) (Nat.le_of_ble_eq_true rfl) [some (ZI operand)] rfl (fun V hV => ?_)
  show V 0 [some (ZI operand)] [] 284 σ
  refine zr_iload_n (pc := 0) hV dX3_namedBy_0 rfl rfl ?_
  refine zr_iconst (pc := 1) hV 4 dX3_namedBy_1 rfl ?_
  refine zr_icmp_ne (pc := 2) hV 8 dX3_namedBy_2 (by decide) (by omega) ⟨by decide, by decide⟩ (fun c1 => ?_) (fun c1 => ?_)
  · show V 8 [some (ZI operand)] [] 284 σ
    refine zr_iload_n (pc := 8) hV dX3_namedBy_8 rfl rfl ?_
    refine zr_iconst (pc := 9) hV 5 dX3_namedBy_9 rfl ?_
    refine zr_icmp_ne (pc := 10) hV 16 dX3_namedBy_10 (by decide) (by omega) ⟨by decide, by decide⟩ (fun c2 => ?_) (fun c2 => ?_)
    · show V 16 [some (ZI operand)] [] 284 σ
      refine zr_iload_n (pc := 16) hV dX3_namedBy_16 rfl rfl ?_
      refine zr_iconst (pc := 17) hV 3 dX3_namedBy_17 rfl ?_
      refine zr_icmp_eq (pc := 18) hV 27 dX3_namedBy_18 (by decide) (by omega) ⟨by decide, by decide⟩ (fun c3 => ?_) (fun c3 => ?_)
      · show V 27 [some (ZI operand)] [] 284 σ
        refine zr_iconst (pc := 27) hV 0 dX3_namedBy_27 rfl ?_
        exact zr_iret (pc := 28) hV dX3_namedBy_28 rfl rfl ⟨rfl, _, rfl, ⟨by decide, by decide⟩, (by show _ = zt_nmb operand; unfold zt_nmb; rw [if_neg (by omega), if_neg (by omega), if_pos (by omega)])⟩
      · show V 21 [some (ZI operand)] [] 284 σ
        refine zr_iload_n (pc := 21) hV dX3_namedBy_21 rfl rfl ?_
        refine zr_bipush (pc := 22) hV 16 dX3_namedBy_22 (by decide) ?_
        refine zr_icmp_lt (pc := 24) hV 29 dX3_namedBy_24 (by decide) (by omega) ⟨by decide, by decide⟩ (fun c4 => ?_) (fun c4 => ?_)
        · show V 29 [some (ZI operand)] [] 284 σ
          refine zr_iload_n (pc := 29) hV dX3_namedBy_29 rfl rfl ?_
          refine zr_bipush (pc := 30) hV 6 dX3_namedBy_30 (by decide) ?_
          refine zr_icmp_lt (pc := 32) hV 57 dX3_namedBy_32 (by decide) (by omega) ⟨by decide, by decide⟩ (fun c5 => ?_) (fun c5 => ?_)
          · show V 57 [some (ZI operand)] [] 284 σ
            refine zr_iconst (pc := 57) hV 1 dX3_namedBy_57 rfl ?_
            refine zr_iload_n (pc := 58) hV dX3_namedBy_58 rfl rfl ?_
            refine zr_ishl (pc := 59) hV dX3_namedBy_59 ?_
            have t6 := zq_shl_in 1 operand
            exact zr_iret (pc := 60) hV dX3_namedBy_60 rfl rfl ⟨rfl, _, rfl, (by omega), (by show _ = zt_nmb operand; unfold zt_nmb; rw [if_neg (by omega), if_neg (by omega), if_neg (by omega), if_neg (by omega)])⟩
          · show V 35 [some (ZI operand)] [] 284 σ
            refine zr_bipush (pc := 35) hV 32 dX3_namedBy_35 (by decide) ?_
            refine zr_iload_n (pc := 37) hV dX3_namedBy_37 rfl rfl ?_
            refine zr_bipush (pc := 38) hV 6 dX3_namedBy_38 (by decide) ?_
            refine zr_isub (pc := 40) hV dX3_namedBy_40 ?_
            refine zr_iconst (pc := 41) hV 3 dX3_namedBy_41 rfl ?_
            refine zr_icmp_ne (pc := 42) hV 49 dX3_namedBy_42 (by decide) (by omega) ⟨by decide, by decide⟩ (fun c7 => ?_) (fun c7 => ?_)
            · show V 49 [some (ZI operand)] [ZI 32] 284 σ
              refine zr_iconst (pc := 49) hV 1 dX3_namedBy_49 rfl ?_
              refine zr_iload_n (pc := 50) hV dX3_namedBy_50 rfl rfl ?_
              refine zr_bipush (pc := 51) hV 6 dX3_namedBy_51 (by decide) ?_
              refine zr_isub (pc := 53) hV dX3_namedBy_53 ?_
              refine zr_ishl (pc := 54) hV dX3_namedBy_54 ?_
              have t8 := zx_shl_one (y := operand - 6) 9 512 (by decide) (by decide) (by omega)
              show V 55 [some (ZI operand)] [ZI (zq_shl 1 (operand - 6)), ZI 32] 284 σ
              refine zr_ior (pc := 55) hV dX3_namedBy_55 ?_
              have t9 := zq_or_b (x := 32) (y := zq_shl 1 (operand - 6)) 10 1024 (by decide) (by decide) (by omega) (by omega)
              exact zr_iret (pc := 56) hV dX3_namedBy_56 rfl rfl ⟨rfl, _, rfl, (by omega), (by show _ = zt_nmb operand; unfold zt_nmb; rw [if_neg (by omega), if_neg (by omega), if_neg (by omega), if_pos (by omega), if_neg (by omega)])⟩
            · show V 45 [some (ZI operand)] [ZI 32] 284 σ
              refine zr_iconst (pc := 45) hV 0 dX3_namedBy_45 rfl ?_
              refine zr_goto (pc := 46) hV 55 dX3_namedBy_46 (by decide) ?_
              show V 55 [some (ZI operand)] [ZI 0, ZI 32] 284 σ
              refine zr_ior (pc := 55) hV dX3_namedBy_55 ?_
              have t10 := zq_or_b (x := 32) (y := 0) 6 64 (by decide) (by decide) (by omega) (by omega)
              exact zr_iret (pc := 56) hV dX3_namedBy_56 rfl rfl ⟨rfl, _, rfl, (by omega), (by show _ = zt_nmb operand; unfold zt_nmb; rw [if_neg (by omega), if_neg (by omega), if_neg (by omega), if_pos (by omega), if_pos (by omega)])⟩
        · show V 27 [some (ZI operand)] [] 284 σ
          refine zr_iconst (pc := 27) hV 0 dX3_namedBy_27 rfl ?_
          exact zr_iret (pc := 28) hV dX3_namedBy_28 rfl rfl ⟨rfl, _, rfl, ⟨by decide, by decide⟩, (by show _ = zt_nmb operand; unfold zt_nmb; rw [if_neg (by omega), if_neg (by omega), if_pos (by omega)])⟩
    · show V 13 [some (ZI operand)] [] 284 σ
      refine zr_bipush (pc := 13) hV 16 dX3_namedBy_13 (by decide) ?_
      exact zr_iret (pc := 15) hV dX3_namedBy_15 rfl rfl ⟨rfl, _, rfl, ⟨by decide, by decide⟩, (by show _ = zt_nmb operand; unfold zt_nmb; rw [if_neg (by omega), if_pos (by omega)])⟩
  · show V 5 [some (ZI operand)] [] 284 σ
    refine zr_bipush (pc := 5) hV 8 dX3_namedBy_5 (by decide) ?_
    exact zr_iret (pc := 7) hV dX3_namedBy_7 rfl rfl ⟨rfl, _, rfl, ⟨by decide, by decide⟩, (by show _ = zt_nmb operand; unfold zt_nmb; rw [if_pos (by omega)])⟩
set_option maxHeartbeats 800000 in
theorem c_X3_addGuard_2 {σ : zq_S} (hσ : zc_T σ) (this : Int) (kthis : zc_kd this = 4) (kind : Int) (on : Int) (q0 : zq_in kind) (q1 : 0 ≤ on ∧ on ≤ 9) : zq_C zc_w yX3_addGuard cX3_addGuard 3 (none) 1 20 284 284 [ZR this, ZI kind, ZI on] σ (zq_pv (fun τ => zc_T τ ∧ zc_Fr [(4, 4), (4, 5), (4, 12)] σ τ ∧ zd_Own this σ τ ∧ (τ this 4 = kind ∧ τ this 5 = on ∧ τ this 12 = zq_or (σ this 12) (zt_nmb on)))) := by
  refine zq_C_of (by decide) (Nat.le_refl _) (Nat.le_of_ble_eq_true rfl) [some (ZR this), some (ZI kind), some (ZI on)] rfl (fun V hV => ?_)
  have pothis := zc_pos kthis rfl
  have hFσ := zc_Fr_rf [(4, 4), (4, 5), (4, 12)] σ
  have hOσ := zd_Own_rf this σ
  show V 0 [some (ZR this), some (ZI kind), some (ZI on)] [] 284 σ
  refine zr_aload_n (pc := 0) hV dX3_addGuard_0 rfl rfl ?_
  refine zr_iload_n (pc := 1) hV dX3_addGuard_1 rfl rfl ?_
  refine zr_putI (pc := 2) hV 4 dX3_addGuard_2 fX3_43 rfl rfl rfl (zc_k4 kthis) (zc_pos kthis rfl) (fun σ2 eσ2 => ?_)
  have hσ2 : zc_T σ2 := zc_u4_4 eσ2 hσ kthis (by omega)
  have hFσ2 := zc_Fw eσ2 kthis rfl hFσ
  have hOσ2 := zd_Ow eσ2 (by omega) hOσ
  refine zr_aload_n (pc := 5) hV dX3_addGuard_5 rfl rfl ?_
  refine zr_iload_n (pc := 6) hV dX3_addGuard_6 rfl rfl ?_
  refine zr_putI (pc := 7) hV 5 dX3_addGuard_7 fX3_46 rfl rfl rfl (zc_k4 kthis) (zc_pos kthis rfl) (fun σ7 eσ7 => ?_)
  have hσ7 : zc_T σ7 := zc_u4_5 eσ7 hσ2 kthis (by omega)
  have hFσ7 := zc_Fw eσ7 kthis rfl hFσ2
  have hOσ7 := zd_Ow eσ7 (by omega) hOσ2
  refine zr_aload_n (pc := 10) hV dX3_addGuard_10 rfl rfl ?_
  refine zr_dup (pc := 11) hV dX3_addGuard_11 (fun _ => rfl) ?_
  refine zr_getI (pc := 12) hV 12 dX3_addGuard_12 fX3_55 rfl rfl (zc_k4 kthis) (zc_pos kthis rfl) ?_
  have t1 := zc_g4_12 hσ7 kthis
  have t2 : σ7 this 12 = σ2 this 12 := by rw [eσ7]; exact zq_up_ne (by omega)
  have t3 : σ2 this 12 = σ this 12 := by rw [eσ2]; exact zq_up_ne (by omega)
  refine zr_iload_n (pc := 15) hV dX3_addGuard_15 rfl rfl ?_
  refine zr_callSp (pc := 16) hV [ZI on] (st := [ZI (σ7 this 12), ZR this]) (c_X3_namedBy_2 (σ := σ7) on (by omega)) dX3_addGuard_16 mX3_70 (by decide) (Nat.le_of_ble_eq_true rfl) (Nat.le_refl _) (fun r16 hr16 pr16 => ?_)
  refine zr_ior (pc := 19) hV dX3_addGuard_19 ?_
  have t4 := zq_or_in (σ7 this 12) r16
  refine zr_putI (pc := 20) hV 12 dX3_addGuard_20 fX3_55 rfl rfl rfl (zc_k4 kthis) (zc_pos kthis rfl) (fun σ20 eσ20 => ?_)
  have hσ20 : zc_T σ20 := zc_u4_12 eσ20 hσ7 kthis (by omega)
  have hFσ20 := zc_Fw eσ20 kthis rfl hFσ7
  have hOσ20 := zd_Ow eσ20 (by omega) hOσ7
  have t5 := zc_g4_12 hσ20 kthis
  have t6 : σ20 this 12 = zq_or (σ7 this 12) r16 := by rw [eσ20]; exact zq_up_same _ _ _ _
  have t7 := zc_g4_4 hσ20 kthis
  have t8 : σ20 this 4 = σ7 this 4 := by rw [eσ20]; exact zq_up_ne (by omega)
  have t9 : σ7 this 4 = σ2 this 4 := by rw [eσ7]; exact zq_up_ne (by omega)
  have t10 : σ2 this 4 = kind := by rw [eσ2]; exact zq_up_same _ _ _ _
  have t11 := zc_g4_5 hσ20 kthis
  have t12 : σ20 this 5 = σ7 this 5 := by rw [eσ20]; exact zq_up_ne (by omega)
  have t13 : σ7 this 5 = on := by rw [eσ7]; exact zq_up_same _ _ _ _
  exact zr_vret (pc := 23) hV dX3_addGuard_23 rfl rfl ⟨rfl, hσ20, hFσ20, hOσ20, ⟨by omega, by omega, by rw [eσ20, zq_up_same, show σ7 this 12 = σ this 12 by omega, pr16]⟩⟩
set_option maxHeartbeats 800000 in
theorem c_X3_addAct_2 {σ : zq_S} (hσ : zc_T σ) (this : Int) (kthis : zc_kd this = 4) (target : Int) (left : Int) (sign : Int) (right : Int) (q0 : 0 ≤ target ∧ target ≤ 9) (q1 : 0 ≤ left ∧ left ≤ 271) (q2 : zq_in sign) (q3 : 0 ≤ right ∧ right ≤ 271) (q4 : zc_op left) (q5 : zc_op right) (q6 : σ this 6 ≤ 2) : zq_C zc_w yX3_addAct cX3_addAct 5 (none) 1 20 284 284 [ZR this, ZI target, ZI left, ZI sign, ZI right] σ (zq_pv (fun τ => zc_T τ ∧ zc_Fr [(4, 6), (4, 12), (4, 13), (6, -1), (7, -1), (8, -1), (9, -1)] σ τ ∧ zd_Own this σ τ ∧ (τ this 6 = σ this 6 + 1) ∧ zq_hid (zt_add σ τ this target left sign right))) := by
  refine zq_C_of (by decide) (Nat.le_refl _) (Nat.le_of_ble_eq_true rfl) [some (ZR this), some (ZI target), some (ZI left), some (ZI sign), some (ZI right)] rfl (fun V hV => ?_)
  have pothis := zc_pos kthis rfl
  have hFσ := zc_Fr_rf [(4, 6), (4, 12), (4, 13), (6, -1), (7, -1), (8, -1), (9, -1)] σ
  have hOσ := zd_Own_rf this σ
  show V 0 [some (ZR this), some (ZI target), some (ZI left), some (ZI sign), some (ZI right)] [] 284 σ
  refine zr_aload_n (pc := 0) hV dX3_addAct_0 rfl rfl ?_
  refine zr_getI (pc := 1) hV 6 dX3_addAct_1 fX3_49 rfl rfl (zc_k4 kthis) (zc_pos kthis rfl) ?_
  have t1 := zc_g4_6 hσ kthis
  refine zr_iconst (pc := 4) hV 3 dX3_addAct_4 rfl ?_
  refine zr_icmp_lt (pc := 5) hV 9 dX3_addAct_5 (by decide) (by omega) ⟨by decide, by decide⟩ (fun c2 => ?_) (fun c2 => ?_)
  · show V 9 [some (ZR this), some (ZI target), some (ZI left), some (ZI sign), some (ZI right)] [] 284 σ
    refine zr_aload_n (pc := 9) hV dX3_addAct_9 rfl rfl ?_
    refine zr_getR (pc := 10) hV 7 (this + 2) dX3_addAct_10 fX3_15 rfl rfl (zc_k4 kthis) (zc_pos kthis rfl) (zc_g4_7 hσ kthis) (zc_pos (zc_p4_2 kthis) rfl).1 ?_
    refine zr_aload_n (pc := 13) hV dX3_addAct_13 rfl rfl ?_
    refine zr_getI (pc := 14) hV 6 dX3_addAct_14 fX3_49 rfl rfl (zc_k4 kthis) (zc_pos kthis rfl) ?_
    have t3 := zc_g4_6 hσ kthis
    refine zr_iload_n (pc := 17) hV dX3_addAct_17 rfl rfl ?_
    refine zr_iast (pc := 18) hV dX3_addAct_18 (zc_k6 (zc_p4_2 kthis)) (zc_pos (zc_p4_2 kthis) rfl) rfl (by omega) (fun σ18 eσ18 => ?_)
    have hσ18 : zc_T σ18 := zc_ua6 eσ18 hσ (zc_p4_2 kthis) (by omega)
    have hFσ18 := zc_Fa eσ18 (zc_p4_2 kthis) rfl hFσ
    have hOσ18 := zd_Ow eσ18 (by omega) hOσ
    refine zr_aload_n (pc := 19) hV dX3_addAct_19 rfl rfl ?_
    refine zr_getR (pc := 20) hV 8 (this + 3) dX3_addAct_20 fX3_18 rfl rfl (zc_k4 kthis) (zc_pos kthis rfl) (zc_g4_8 hσ18 kthis) (zc_pos (zc_p4_3 kthis) rfl).1 ?_
    refine zr_aload_n (pc := 23) hV dX3_addAct_23 rfl rfl ?_
    refine zr_getI (pc := 24) hV 6 dX3_addAct_24 fX3_49 rfl rfl (zc_k4 kthis) (zc_pos kthis rfl) ?_
    have t4 := zc_g4_6 hσ18 kthis
    have t5 : σ18 this 6 = σ this 6 := by rw [eσ18]; exact zq_up_ne (zc_dk kthis (zc_p4_2 kthis) rfl)
    refine zr_iload_n (pc := 27) hV dX3_addAct_27 rfl rfl ?_
    refine zr_iast (pc := 28) hV dX3_addAct_28 (zc_k7 (zc_p4_3 kthis)) (zc_pos (zc_p4_3 kthis) rfl) rfl (by omega) (fun σ28 eσ28 => ?_)
    have hσ28 : zc_T σ28 := zc_ua7 eσ28 hσ18 (zc_p4_3 kthis) ⟨by omega, by omega, q4⟩
    have hFσ28 := zc_Fa eσ28 (zc_p4_3 kthis) rfl hFσ18
    have hOσ28 := zd_Ow eσ28 (by omega) hOσ18
    refine zr_aload_n (pc := 29) hV dX3_addAct_29 rfl rfl ?_
    refine zr_getR (pc := 30) hV 9 (this + 4) dX3_addAct_30 fX3_21 rfl rfl (zc_k4 kthis) (zc_pos kthis rfl) (zc_g4_9 hσ28 kthis) (zc_pos (zc_p4_4 kthis) rfl).1 ?_
    refine zr_aload_n (pc := 33) hV dX3_addAct_33 rfl rfl ?_
    refine zr_getI (pc := 34) hV 6 dX3_addAct_34 fX3_49 rfl rfl (zc_k4 kthis) (zc_pos kthis rfl) ?_
    have t6 := zc_g4_6 hσ28 kthis
    have t7 : σ28 this 6 = σ18 this 6 := by rw [eσ28]; exact zq_up_ne (zc_dk kthis (zc_p4_3 kthis) rfl)
    have t8 : σ18 this 6 = σ this 6 := by rw [eσ18]; exact zq_up_ne (zc_dk kthis (zc_p4_2 kthis) rfl)
    refine zr_iload_n (pc := 37) hV dX3_addAct_37 rfl rfl ?_
    refine zr_iast (pc := 38) hV dX3_addAct_38 (zc_k8 (zc_p4_4 kthis)) (zc_pos (zc_p4_4 kthis) rfl) rfl (by omega) (fun σ38 eσ38 => ?_)
    have hσ38 : zc_T σ38 := zc_ua8 eσ38 hσ28 (zc_p4_4 kthis) (by omega)
    have hFσ38 := zc_Fa eσ38 (zc_p4_4 kthis) rfl hFσ28
    have hOσ38 := zd_Ow eσ38 (by omega) hOσ28
    refine zr_aload_n (pc := 39) hV dX3_addAct_39 rfl rfl ?_
    refine zr_getR (pc := 40) hV 10 (this + 5) dX3_addAct_40 fX3_24 rfl rfl (zc_k4 kthis) (zc_pos kthis rfl) (zc_g4_10 hσ38 kthis) (zc_pos (zc_p4_5 kthis) rfl).1 ?_
    refine zr_aload_n (pc := 43) hV dX3_addAct_43 rfl rfl ?_
    refine zr_getI (pc := 44) hV 6 dX3_addAct_44 fX3_49 rfl rfl (zc_k4 kthis) (zc_pos kthis rfl) ?_
    have t9 := zc_g4_6 hσ38 kthis
    have t10 : σ38 this 6 = σ28 this 6 := by rw [eσ38]; exact zq_up_ne (zc_dk kthis (zc_p4_4 kthis) rfl)
    have t11 : σ28 this 6 = σ18 this 6 := by rw [eσ28]; exact zq_up_ne (zc_dk kthis (zc_p4_3 kthis) rfl)
    have t12 : σ18 this 6 = σ this 6 := by rw [eσ18]; exact zq_up_ne (zc_dk kthis (zc_p4_2 kthis) rfl)
    refine zr_iload (pc := 47) hV dX3_addAct_47 rfl ?_
    refine zr_iast (pc := 49) hV dX3_addAct_49 (zc_k9 (zc_p4_5 kthis)) (zc_pos (zc_p4_5 kthis) rfl) rfl (by omega) (fun σ49 eσ49 => ?_)
    have hσ49 : zc_T σ49 := zc_ua9 eσ49 hσ38 (zc_p4_5 kthis) ⟨by omega, by omega, q5⟩
    have hFσ49 := zc_Fa eσ49 (zc_p4_5 kthis) rfl hFσ38
    have hOσ49 := zd_Ow eσ49 (by omega) hOσ38
    refine zr_aload_n (pc := 50) hV dX3_addAct_50 rfl rfl ?_
    refine zr_dup (pc := 51) hV dX3_addAct_51 (fun _ => rfl) ?_
    refine zr_getI (pc := 52) hV 6 dX3_addAct_52 fX3_49 rfl rfl (zc_k4 kthis) (zc_pos kthis rfl) ?_
    have t13 := zc_g4_6 hσ49 kthis
    have t14 : σ49 this 6 = σ38 this 6 := by rw [eσ49]; exact zq_up_ne (zc_dk kthis (zc_p4_5 kthis) rfl)
    have t15 : σ38 this 6 = σ28 this 6 := by rw [eσ38]; exact zq_up_ne (zc_dk kthis (zc_p4_4 kthis) rfl)
    have t16 : σ28 this 6 = σ18 this 6 := by rw [eσ28]; exact zq_up_ne (zc_dk kthis (zc_p4_3 kthis) rfl)
    have t17 : σ18 this 6 = σ this 6 := by rw [eσ18]; exact zq_up_ne (zc_dk kthis (zc_p4_2 kthis) rfl)
    refine zr_iconst (pc := 55) hV 1 dX3_addAct_55 rfl ?_
    refine zr_iadd (pc := 56) hV dX3_addAct_56 ?_
    refine zr_putI (pc := 57) hV 6 dX3_addAct_57 fX3_49 rfl rfl rfl (zc_k4 kthis) (zc_pos kthis rfl) (fun σ57 eσ57 => ?_)
    have hσ57 : zc_T σ57 := zc_u4_6 eσ57 hσ49 kthis (by omega)
    have hFσ57 := zc_Fw eσ57 kthis rfl hFσ49
    have hOσ57 := zd_Ow eσ57 (by omega) hOσ49
    refine zr_aload_n (pc := 60) hV dX3_addAct_60 rfl rfl ?_
    refine zr_dup (pc := 61) hV dX3_addAct_61 (fun _ => rfl) ?_
    refine zr_getI (pc := 62) hV 12 dX3_addAct_62 fX3_55 rfl rfl (zc_k4 kthis) (zc_pos kthis rfl) ?_
    have t18 := zc_g4_12 hσ57 kthis
    have t19 : σ57 this 12 = σ49 this 12 := by rw [eσ57]; exact zq_up_ne (by omega)
    have t20 : σ49 this 12 = σ38 this 12 := by rw [eσ49]; exact zq_up_ne (zc_dk kthis (zc_p4_5 kthis) rfl)
    have t21 : σ38 this 12 = σ28 this 12 := by rw [eσ38]; exact zq_up_ne (zc_dk kthis (zc_p4_4 kthis) rfl)
    have t22 : σ28 this 12 = σ18 this 12 := by rw [eσ28]; exact zq_up_ne (zc_dk kthis (zc_p4_3 kthis) rfl)
    have t23 : σ18 this 12 = σ this 12 := by rw [eσ18]; exact zq_up_ne (zc_dk kthis (zc_p4_2 kthis) rfl)
    refine zr_iload_n (pc := 65) hV dX3_addAct_65 rfl rfl ?_
    refine zr_callSp (pc := 66) hV [ZI left] (st := [ZI (σ57 this 12), ZR this]) (c_X3_namedBy_2 (σ := σ57) left (by omega)) dX3_addAct_66 mX3_70 (by decide) (Nat.le_of_ble_eq_true rfl) (Nat.le_refl _) (fun r66 hr66 pr66 => ?_)
    refine zr_iload_n (pc := 69) hV dX3_addAct_69 rfl rfl ?_
    refine zr_if_ne (pc := 70) hV 77 dX3_addAct_70 (by decide) (by omega) (fun c24 => ?_) (fun c24 => ?_)
    · show V 77 [some (ZR this), some (ZI target), some (ZI left), some (ZI sign), some (ZI right)] [ZI r66, ZI (σ57 this 12), ZR this] 284 σ57
      refine zr_iload (pc := 77) hV dX3_addAct_77 rfl ?_
      refine zr_callSp (pc := 79) hV [ZI right] (st := [ZI r66, ZI (σ57 this 12), ZR this]) (c_X3_namedBy_2 (σ := σ57) right (by omega)) dX3_addAct_79 mX3_70 (by decide) (Nat.le_of_ble_eq_true rfl) (Nat.le_refl _) (fun r79 hr79 pr79 => ?_)
      show V 82 [some (ZR this), some (ZI target), some (ZI left), some (ZI sign), some (ZI right)] [ZI r79, ZI r66, ZI (σ57 this 12), ZR this] 284 σ57
      refine zr_ior (pc := 82) hV dX3_addAct_82 ?_
      have t25 := zq_or_in r66 r79
      refine zr_ior (pc := 83) hV dX3_addAct_83 ?_
      have t26 := zq_or_in (σ57 this 12) (zq_or r66 r79)
      refine zr_putI (pc := 84) hV 12 dX3_addAct_84 fX3_55 rfl rfl rfl (zc_k4 kthis) (zc_pos kthis rfl) (fun σ84 eσ84 => ?_)
      have hσ84 : zc_T σ84 := zc_u4_12 eσ84 hσ57 kthis (by omega)
      have hFσ84 := zc_Fw eσ84 kthis rfl hFσ57
      have hOσ84 := zd_Ow eσ84 (by omega) hOσ57
      refine zr_iload_n (pc := 87) hV dX3_addAct_87 rfl rfl ?_
      refine zr_bipush (pc := 88) hV 6 dX3_addAct_88 (by decide) ?_
      refine zr_icmp_lt (pc := 90) hV 123 dX3_addAct_90 (by decide) (by omega) ⟨by decide, by decide⟩ (fun c27 => ?_) (fun c27 => ?_)
      · show V 123 [some (ZR this), some (ZI target), some (ZI left), some (ZI sign), some (ZI right)] [] 284 σ84
        refine zr_aload_n (pc := 123) hV dX3_addAct_123 rfl rfl ?_
        refine zr_dup (pc := 124) hV dX3_addAct_124 (fun _ => rfl) ?_
        refine zr_getI (pc := 125) hV 13 dX3_addAct_125 fX3_58 rfl rfl (zc_k4 kthis) (zc_pos kthis rfl) ?_
        have t28 := zc_g4_13 hσ84 kthis
        have t29 : σ84 this 13 = σ57 this 13 := by rw [eσ84]; exact zq_up_ne (by omega)
        have t30 : σ57 this 13 = σ49 this 13 := by rw [eσ57]; exact zq_up_ne (by omega)
        have t31 : σ49 this 13 = σ38 this 13 := by rw [eσ49]; exact zq_up_ne (zc_dk kthis (zc_p4_5 kthis) rfl)
        have t32 : σ38 this 13 = σ28 this 13 := by rw [eσ38]; exact zq_up_ne (zc_dk kthis (zc_p4_4 kthis) rfl)
        have t33 : σ28 this 13 = σ18 this 13 := by rw [eσ28]; exact zq_up_ne (zc_dk kthis (zc_p4_3 kthis) rfl)
        have t34 : σ18 this 13 = σ this 13 := by rw [eσ18]; exact zq_up_ne (zc_dk kthis (zc_p4_2 kthis) rfl)
        refine zr_iload_n (pc := 128) hV dX3_addAct_128 rfl rfl ?_
        refine zr_callSp (pc := 129) hV [ZI target] (st := [ZI (σ84 this 13), ZR this]) (c_X3_namedBy_2 (σ := σ84) target (by omega)) dX3_addAct_129 mX3_70 (by decide) (Nat.le_of_ble_eq_true rfl) (Nat.le_refl _) (fun r129 hr129 pr129 => ?_)
        refine zr_ior (pc := 132) hV dX3_addAct_132 ?_
        have t35 := zq_or_in (σ84 this 13) r129
        refine zr_putI (pc := 133) hV 13 dX3_addAct_133 fX3_58 rfl rfl rfl (zc_k4 kthis) (zc_pos kthis rfl) (fun σ133 eσ133 => ?_)
        have hσ133 : zc_T σ133 := zc_u4_13 eσ133 hσ84 kthis (by omega)
        have hFσ133 := zc_Fw eσ133 kthis rfl hFσ84
        have hOσ133 := zd_Ow eσ133 (by omega) hOσ84
        show V 136 [some (ZR this), some (ZI target), some (ZI left), some (ZI sign), some (ZI right)] [] 284 σ133
        have t36 := zc_g4_6 hσ133 kthis
        have t37 : σ133 this 6 = σ84 this 6 := by rw [eσ133]; exact zq_up_ne (by omega)
        have t38 : σ84 this 6 = σ57 this 6 := by rw [eσ84]; exact zq_up_ne (by omega)
        have t39 : σ57 this 6 = (σ49 this 6) + 1 := by rw [eσ57]; exact zq_up_same _ _ _ _
        exact zr_vret (pc := 136) hV dX3_addAct_136 rfl rfl ⟨rfl, hσ133, hFσ133, hOσ133, (by omega), (show zt_add σ σ133 this target left sign right from ⟨by omega, (by rw [zt_nm1_an (by omega) (by omega), eσ133, zq_up_ne (by omega), eσ84, zq_up_same, show σ57 this 12 = σ this 12 by omega, pr66, pr79]), (by unfold zt_am1; repeat (first | rw [if_pos (by omega)] | rw [if_neg (by omega)]); rw [eσ133, zq_up_same, show σ84 this 13 = σ this 13 by omega, pr129]), (fun j => if hj : j = σ this 6 then (by rw [if_pos hj, hj, eσ133, zq_up_ne (by omega), eσ84, zq_up_ne (by omega), eσ57, zq_up_ne (by omega), eσ49, zq_up_ne (by omega), eσ38, zq_up_ne (by omega), eσ28, zq_up_ne (by omega), eσ18, zq_up_same]) else (by rw [if_neg hj, eσ133, zq_up_ne (by omega), eσ84, zq_up_ne (by omega), eσ57, zq_up_ne (by omega), eσ49, zq_up_ne (by omega), eσ38, zq_up_ne (by omega), eσ28, zq_up_ne (by omega), eσ18, zq_up_ne (by omega)])), (fun j => if hj : j = σ this 6 then (by rw [if_pos hj, hj, eσ133, zq_up_ne (by omega), eσ84, zq_up_ne (by omega), eσ57, zq_up_ne (by omega), eσ49, zq_up_ne (by omega), eσ38, zq_up_ne (by omega), eσ28, show σ this 6 = σ18 this 6 by omega, zq_up_same]) else (by rw [if_neg hj, eσ133, zq_up_ne (by omega), eσ84, zq_up_ne (by omega), eσ57, zq_up_ne (by omega), eσ49, zq_up_ne (by omega), eσ38, zq_up_ne (by omega), eσ28, zq_up_ne (by omega), eσ18, zq_up_ne (by omega)])), (fun j => if hj : j = σ this 6 then (by rw [if_pos hj, hj, eσ133, zq_up_ne (by omega), eσ84, zq_up_ne (by omega), eσ57, zq_up_ne (by omega), eσ49, zq_up_ne (by omega), eσ38, show σ this 6 = σ28 this 6 by omega, zq_up_same]) else (by rw [if_neg hj, eσ133, zq_up_ne (by omega), eσ84, zq_up_ne (by omega), eσ57, zq_up_ne (by omega), eσ49, zq_up_ne (by omega), eσ38, zq_up_ne (by omega), eσ28, zq_up_ne (by omega), eσ18, zq_up_ne (by omega)])), (fun j => if hj : j = σ this 6 then (by rw [if_pos hj, hj, eσ133, zq_up_ne (by omega), eσ84, zq_up_ne (by omega), eσ57, zq_up_ne (by omega), eσ49, show σ this 6 = σ38 this 6 by omega, zq_up_same]) else (by rw [if_neg hj, eσ133, zq_up_ne (by omega), eσ84, zq_up_ne (by omega), eσ57, zq_up_ne (by omega), eσ49, zq_up_ne (by omega), eσ38, zq_up_ne (by omega), eσ28, zq_up_ne (by omega), eσ18, zq_up_ne (by omega)]))⟩)⟩
      · show V 93 [some (ZR this), some (ZI target), some (ZI left), some (ZI sign), some (ZI right)] [] 284 σ84
        refine zr_aload_n (pc := 93) hV dX3_addAct_93 rfl rfl ?_
        refine zr_dup (pc := 94) hV dX3_addAct_94 (fun _ => rfl) ?_
        refine zr_getI (pc := 95) hV 13 dX3_addAct_95 fX3_58 rfl rfl (zc_k4 kthis) (zc_pos kthis rfl) ?_
        have t40 := zc_g4_13 hσ84 kthis
        have t41 : σ84 this 13 = σ57 this 13 := by rw [eσ84]; exact zq_up_ne (by omega)
        have t42 : σ57 this 13 = σ49 this 13 := by rw [eσ57]; exact zq_up_ne (by omega)
        have t43 : σ49 this 13 = σ38 this 13 := by rw [eσ49]; exact zq_up_ne (zc_dk kthis (zc_p4_5 kthis) rfl)
        have t44 : σ38 this 13 = σ28 this 13 := by rw [eσ38]; exact zq_up_ne (zc_dk kthis (zc_p4_4 kthis) rfl)
        have t45 : σ28 this 13 = σ18 this 13 := by rw [eσ28]; exact zq_up_ne (zc_dk kthis (zc_p4_3 kthis) rfl)
        have t46 : σ18 this 13 = σ this 13 := by rw [eσ18]; exact zq_up_ne (zc_dk kthis (zc_p4_2 kthis) rfl)
        refine zr_bipush (pc := 98) hV 32 dX3_addAct_98 (by decide) ?_
        refine zr_ior (pc := 100) hV dX3_addAct_100 ?_
        have t47 := zq_or_in (σ84 this 13) 32
        refine zr_putI (pc := 101) hV 13 dX3_addAct_101 fX3_58 rfl rfl rfl (zc_k4 kthis) (zc_pos kthis rfl) (fun σ101 eσ101 => ?_)
        have hσ101 : zc_T σ101 := zc_u4_13 eσ101 hσ84 kthis (by omega)
        have hFσ101 := zc_Fw eσ101 kthis rfl hFσ84
        have hOσ101 := zd_Ow eσ101 (by omega) hOσ84
        refine zr_aload_n (pc := 104) hV dX3_addAct_104 rfl rfl ?_
        refine zr_dup (pc := 105) hV dX3_addAct_105 (fun _ => rfl) ?_
        refine zr_getI (pc := 106) hV 12 dX3_addAct_106 fX3_55 rfl rfl (zc_k4 kthis) (zc_pos kthis rfl) ?_
        have t48 := zc_g4_12 hσ101 kthis
        have t49 : σ101 this 12 = σ84 this 12 := by rw [eσ101]; exact zq_up_ne (by omega)
        have t50 : σ84 this 12 = zq_or (σ57 this 12) (zq_or r66 r79) := by rw [eσ84]; exact zq_up_same _ _ _ _
        refine zr_iload_n (pc := 109) hV dX3_addAct_109 rfl rfl ?_
        refine zr_bipush (pc := 110) hV 6 dX3_addAct_110 (by decide) ?_
        refine zr_isub (pc := 112) hV dX3_addAct_112 ?_
        refine zr_callSp (pc := 113) hV [ZI (target - 6)] (st := [ZI (σ101 this 12), ZR this]) (c_X3_namedBy_2 (σ := σ101) (target - 6) (by omega)) dX3_addAct_113 mX3_70 (by decide) (Nat.le_of_ble_eq_true rfl) (Nat.le_refl _) (fun r113 hr113 pr113 => ?_)
        refine zr_ior (pc := 116) hV dX3_addAct_116 ?_
        have t51 := zq_or_in (σ101 this 12) r113
        refine zr_putI (pc := 117) hV 12 dX3_addAct_117 fX3_55 rfl rfl rfl (zc_k4 kthis) (zc_pos kthis rfl) (fun σ117 eσ117 => ?_)
        have hσ117 : zc_T σ117 := zc_u4_12 eσ117 hσ101 kthis (by omega)
        have hFσ117 := zc_Fw eσ117 kthis rfl hFσ101
        have hOσ117 := zd_Ow eσ117 (by omega) hOσ101
        refine zr_goto (pc := 120) hV 136 dX3_addAct_120 (by decide) ?_
        show V 136 [some (ZR this), some (ZI target), some (ZI left), some (ZI sign), some (ZI right)] [] 284 σ117
        have t52 := zc_g4_6 hσ117 kthis
        have t53 : σ117 this 6 = σ101 this 6 := by rw [eσ117]; exact zq_up_ne (by omega)
        have t54 : σ101 this 6 = σ84 this 6 := by rw [eσ101]; exact zq_up_ne (by omega)
        have t55 : σ84 this 6 = σ57 this 6 := by rw [eσ84]; exact zq_up_ne (by omega)
        have t56 : σ57 this 6 = (σ49 this 6) + 1 := by rw [eσ57]; exact zq_up_same _ _ _ _
        exact zr_vret (pc := 136) hV dX3_addAct_136 rfl rfl ⟨rfl, hσ117, hFσ117, hOσ117, (by omega), (show zt_add σ σ117 this target left sign right from ⟨by omega, (by rw [zt_nm1_bn (by omega) (by omega), eσ117, zq_up_same, show σ101 this 12 = σ84 this 12 by omega, eσ84, zq_up_same, show σ57 this 12 = σ this 12 by omega, pr113, pr66, pr79]), (by unfold zt_am1; repeat (first | rw [if_pos (by omega)] | rw [if_neg (by omega)]); rw [eσ117, zq_up_ne (by omega), eσ101, zq_up_same, show σ84 this 13 = σ this 13 by omega]), (fun j => if hj : j = σ this 6 then (by rw [if_pos hj, hj, eσ117, zq_up_ne (by omega), eσ101, zq_up_ne (by omega), eσ84, zq_up_ne (by omega), eσ57, zq_up_ne (by omega), eσ49, zq_up_ne (by omega), eσ38, zq_up_ne (by omega), eσ28, zq_up_ne (by omega), eσ18, zq_up_same]) else (by rw [if_neg hj, eσ117, zq_up_ne (by omega), eσ101, zq_up_ne (by omega), eσ84, zq_up_ne (by omega), eσ57, zq_up_ne (by omega), eσ49, zq_up_ne (by omega), eσ38, zq_up_ne (by omega), eσ28, zq_up_ne (by omega), eσ18, zq_up_ne (by omega)])), (fun j => if hj : j = σ this 6 then (by rw [if_pos hj, hj, eσ117, zq_up_ne (by omega), eσ101, zq_up_ne (by omega), eσ84, zq_up_ne (by omega), eσ57, zq_up_ne (by omega), eσ49, zq_up_ne (by omega), eσ38, zq_up_ne (by omega), eσ28, show σ this 6 = σ18 this 6 by omega, zq_up_same]) else (by rw [if_neg hj, eσ117, zq_up_ne (by omega), eσ101, zq_up_ne (by omega), eσ84, zq_up_ne (by omega), eσ57, zq_up_ne (by omega), eσ49, zq_up_ne (by omega), eσ38, zq_up_ne (by omega), eσ28, zq_up_ne (by omega), eσ18, zq_up_ne (by omega)])), (fun j => if hj : j = σ this 6 then (by rw [if_pos hj, hj, eσ117, zq_up_ne (by omega), eσ101, zq_up_ne (by omega), eσ84, zq_up_ne (by omega), eσ57, zq_up_ne (by omega), eσ49, zq_up_ne (by omega), eσ38, show σ this 6 = σ28 this 6 by omega, zq_up_same]) else (by rw [if_neg hj, eσ117, zq_up_ne (by omega), eσ101, zq_up_ne (by omega), eσ84, zq_up_ne (by omega), eσ57, zq_up_ne (by omega), eσ49, zq_up_ne (by omega), eσ38, zq_up_ne (by omega), eσ28, zq_up_ne (by omega), eσ18, zq_up_ne (by omega)])), (fun j => if hj : j = σ this 6 then (by rw [if_pos hj, hj, eσ117, zq_up_ne (by omega), eσ101, zq_up_ne (by omega), eσ84, zq_up_ne (by omega), eσ57, zq_up_ne (by omega), eσ49, show σ this 6 = σ38 this 6 by omega, zq_up_same]) else (by rw [if_neg hj, eσ117, zq_up_ne (by omega), eσ101, zq_up_ne (by omega), eσ84, zq_up_ne (by omega), eσ57, zq_up_ne (by omega), eσ49, zq_up_ne (by omega), eσ38, zq_up_ne (by omega), eσ28, zq_up_ne (by omega), eσ18, zq_up_ne (by omega)]))⟩)⟩
    · show V 73 [some (ZR this), some (ZI target), some (ZI left), some (ZI sign), some (ZI right)] [ZI r66, ZI (σ57 this 12), ZR this] 284 σ57
      refine zr_iconst (pc := 73) hV 0 dX3_addAct_73 rfl ?_
      refine zr_goto (pc := 74) hV 82 dX3_addAct_74 (by decide) ?_
      show V 82 [some (ZR this), some (ZI target), some (ZI left), some (ZI sign), some (ZI right)] [ZI 0, ZI r66, ZI (σ57 this 12), ZR this] 284 σ57
      refine zr_ior (pc := 82) hV dX3_addAct_82 ?_
      have t57 := zq_or_in r66 0
      refine zr_ior (pc := 83) hV dX3_addAct_83 ?_
      have t58 := zq_or_in (σ57 this 12) (zq_or r66 0)
      refine zr_putI (pc := 84) hV 12 dX3_addAct_84 fX3_55 rfl rfl rfl (zc_k4 kthis) (zc_pos kthis rfl) (fun σ84 eσ84 => ?_)
      have hσ84 : zc_T σ84 := zc_u4_12 eσ84 hσ57 kthis (by omega)
      have hFσ84 := zc_Fw eσ84 kthis rfl hFσ57
      have hOσ84 := zd_Ow eσ84 (by omega) hOσ57
      refine zr_iload_n (pc := 87) hV dX3_addAct_87 rfl rfl ?_
      refine zr_bipush (pc := 88) hV 6 dX3_addAct_88 (by decide) ?_
      refine zr_icmp_lt (pc := 90) hV 123 dX3_addAct_90 (by decide) (by omega) ⟨by decide, by decide⟩ (fun c59 => ?_) (fun c59 => ?_)
      · show V 123 [some (ZR this), some (ZI target), some (ZI left), some (ZI sign), some (ZI right)] [] 284 σ84
        refine zr_aload_n (pc := 123) hV dX3_addAct_123 rfl rfl ?_
        refine zr_dup (pc := 124) hV dX3_addAct_124 (fun _ => rfl) ?_
        refine zr_getI (pc := 125) hV 13 dX3_addAct_125 fX3_58 rfl rfl (zc_k4 kthis) (zc_pos kthis rfl) ?_
        have t60 := zc_g4_13 hσ84 kthis
        have t61 : σ84 this 13 = σ57 this 13 := by rw [eσ84]; exact zq_up_ne (by omega)
        have t62 : σ57 this 13 = σ49 this 13 := by rw [eσ57]; exact zq_up_ne (by omega)
        have t63 : σ49 this 13 = σ38 this 13 := by rw [eσ49]; exact zq_up_ne (zc_dk kthis (zc_p4_5 kthis) rfl)
        have t64 : σ38 this 13 = σ28 this 13 := by rw [eσ38]; exact zq_up_ne (zc_dk kthis (zc_p4_4 kthis) rfl)
        have t65 : σ28 this 13 = σ18 this 13 := by rw [eσ28]; exact zq_up_ne (zc_dk kthis (zc_p4_3 kthis) rfl)
        have t66 : σ18 this 13 = σ this 13 := by rw [eσ18]; exact zq_up_ne (zc_dk kthis (zc_p4_2 kthis) rfl)
        refine zr_iload_n (pc := 128) hV dX3_addAct_128 rfl rfl ?_
        refine zr_callSp (pc := 129) hV [ZI target] (st := [ZI (σ84 this 13), ZR this]) (c_X3_namedBy_2 (σ := σ84) target (by omega)) dX3_addAct_129 mX3_70 (by decide) (Nat.le_of_ble_eq_true rfl) (Nat.le_refl _) (fun r129 hr129 pr129 => ?_)
        refine zr_ior (pc := 132) hV dX3_addAct_132 ?_
        have t67 := zq_or_in (σ84 this 13) r129
        refine zr_putI (pc := 133) hV 13 dX3_addAct_133 fX3_58 rfl rfl rfl (zc_k4 kthis) (zc_pos kthis rfl) (fun σ133 eσ133 => ?_)
        have hσ133 : zc_T σ133 := zc_u4_13 eσ133 hσ84 kthis (by omega)
        have hFσ133 := zc_Fw eσ133 kthis rfl hFσ84
        have hOσ133 := zd_Ow eσ133 (by omega) hOσ84
        show V 136 [some (ZR this), some (ZI target), some (ZI left), some (ZI sign), some (ZI right)] [] 284 σ133
        have t68 := zc_g4_6 hσ133 kthis
        have t69 : σ133 this 6 = σ84 this 6 := by rw [eσ133]; exact zq_up_ne (by omega)
        have t70 : σ84 this 6 = σ57 this 6 := by rw [eσ84]; exact zq_up_ne (by omega)
        have t71 : σ57 this 6 = (σ49 this 6) + 1 := by rw [eσ57]; exact zq_up_same _ _ _ _
        exact zr_vret (pc := 136) hV dX3_addAct_136 rfl rfl ⟨rfl, hσ133, hFσ133, hOσ133, (by omega), (show zt_add σ σ133 this target left sign right from ⟨by omega, (by rw [zt_nm1_as (by omega) (by omega), eσ133, zq_up_ne (by omega), eσ84, zq_up_same, show σ57 this 12 = σ this 12 by omega, pr66]), (by unfold zt_am1; repeat (first | rw [if_pos (by omega)] | rw [if_neg (by omega)]); rw [eσ133, zq_up_same, show σ84 this 13 = σ this 13 by omega, pr129]), (fun j => if hj : j = σ this 6 then (by rw [if_pos hj, hj, eσ133, zq_up_ne (by omega), eσ84, zq_up_ne (by omega), eσ57, zq_up_ne (by omega), eσ49, zq_up_ne (by omega), eσ38, zq_up_ne (by omega), eσ28, zq_up_ne (by omega), eσ18, zq_up_same]) else (by rw [if_neg hj, eσ133, zq_up_ne (by omega), eσ84, zq_up_ne (by omega), eσ57, zq_up_ne (by omega), eσ49, zq_up_ne (by omega), eσ38, zq_up_ne (by omega), eσ28, zq_up_ne (by omega), eσ18, zq_up_ne (by omega)])), (fun j => if hj : j = σ this 6 then (by rw [if_pos hj, hj, eσ133, zq_up_ne (by omega), eσ84, zq_up_ne (by omega), eσ57, zq_up_ne (by omega), eσ49, zq_up_ne (by omega), eσ38, zq_up_ne (by omega), eσ28, show σ this 6 = σ18 this 6 by omega, zq_up_same]) else (by rw [if_neg hj, eσ133, zq_up_ne (by omega), eσ84, zq_up_ne (by omega), eσ57, zq_up_ne (by omega), eσ49, zq_up_ne (by omega), eσ38, zq_up_ne (by omega), eσ28, zq_up_ne (by omega), eσ18, zq_up_ne (by omega)])), (fun j => if hj : j = σ this 6 then (by rw [if_pos hj, hj, eσ133, zq_up_ne (by omega), eσ84, zq_up_ne (by omega), eσ57, zq_up_ne (by omega), eσ49, zq_up_ne (by omega), eσ38, show σ this 6 = σ28 this 6 by omega, zq_up_same]) else (by rw [if_neg hj, eσ133, zq_up_ne (by omega), eσ84, zq_up_ne (by omega), eσ57, zq_up_ne (by omega), eσ49, zq_up_ne (by omega), eσ38, zq_up_ne (by omega), eσ28, zq_up_ne (by omega), eσ18, zq_up_ne (by omega)])), (fun j => if hj : j = σ this 6 then (by rw [if_pos hj, hj, eσ133, zq_up_ne (by omega), eσ84, zq_up_ne (by omega), eσ57, zq_up_ne (by omega), eσ49, show σ this 6 = σ38 this 6 by omega, zq_up_same]) else (by rw [if_neg hj, eσ133, zq_up_ne (by omega), eσ84, zq_up_ne (by omega), eσ57, zq_up_ne (by omega), eσ49, zq_up_ne (by omega), eσ38, zq_up_ne (by omega), eσ28, zq_up_ne (by omega), eσ18, zq_up_ne (by omega)]))⟩)⟩
      · show V 93 [some (ZR this), some (ZI target), some (ZI left), some (ZI sign), some (ZI right)] [] 284 σ84
        refine zr_aload_n (pc := 93) hV dX3_addAct_93 rfl rfl ?_
        refine zr_dup (pc := 94) hV dX3_addAct_94 (fun _ => rfl) ?_
        refine zr_getI (pc := 95) hV 13 dX3_addAct_95 fX3_58 rfl rfl (zc_k4 kthis) (zc_pos kthis rfl) ?_
        have t72 := zc_g4_13 hσ84 kthis
        have t73 : σ84 this 13 = σ57 this 13 := by rw [eσ84]; exact zq_up_ne (by omega)
        have t74 : σ57 this 13 = σ49 this 13 := by rw [eσ57]; exact zq_up_ne (by omega)
        have t75 : σ49 this 13 = σ38 this 13 := by rw [eσ49]; exact zq_up_ne (zc_dk kthis (zc_p4_5 kthis) rfl)
        have t76 : σ38 this 13 = σ28 this 13 := by rw [eσ38]; exact zq_up_ne (zc_dk kthis (zc_p4_4 kthis) rfl)
        have t77 : σ28 this 13 = σ18 this 13 := by rw [eσ28]; exact zq_up_ne (zc_dk kthis (zc_p4_3 kthis) rfl)
        have t78 : σ18 this 13 = σ this 13 := by rw [eσ18]; exact zq_up_ne (zc_dk kthis (zc_p4_2 kthis) rfl)
        refine zr_bipush (pc := 98) hV 32 dX3_addAct_98 (by decide) ?_
        refine zr_ior (pc := 100) hV dX3_addAct_100 ?_
        have t79 := zq_or_in (σ84 this 13) 32
        refine zr_putI (pc := 101) hV 13 dX3_addAct_101 fX3_58 rfl rfl rfl (zc_k4 kthis) (zc_pos kthis rfl) (fun σ101 eσ101 => ?_)
        have hσ101 : zc_T σ101 := zc_u4_13 eσ101 hσ84 kthis (by omega)
        have hFσ101 := zc_Fw eσ101 kthis rfl hFσ84
        have hOσ101 := zd_Ow eσ101 (by omega) hOσ84
        refine zr_aload_n (pc := 104) hV dX3_addAct_104 rfl rfl ?_
        refine zr_dup (pc := 105) hV dX3_addAct_105 (fun _ => rfl) ?_
        refine zr_getI (pc := 106) hV 12 dX3_addAct_106 fX3_55 rfl rfl (zc_k4 kthis) (zc_pos kthis rfl) ?_
        have t80 := zc_g4_12 hσ101 kthis
        have t81 : σ101 this 12 = σ84 this 12 := by rw [eσ101]; exact zq_up_ne (by omega)
        have t82 : σ84 this 12 = zq_or (σ57 this 12) (zq_or r66 0) := by rw [eσ84]; exact zq_up_same _ _ _ _
        refine zr_iload_n (pc := 109) hV dX3_addAct_109 rfl rfl ?_
        refine zr_bipush (pc := 110) hV 6 dX3_addAct_110 (by decide) ?_
        refine zr_isub (pc := 112) hV dX3_addAct_112 ?_
        refine zr_callSp (pc := 113) hV [ZI (target - 6)] (st := [ZI (σ101 this 12), ZR this]) (c_X3_namedBy_2 (σ := σ101) (target - 6) (by omega)) dX3_addAct_113 mX3_70 (by decide) (Nat.le_of_ble_eq_true rfl) (Nat.le_refl _) (fun r113 hr113 pr113 => ?_)
        refine zr_ior (pc := 116) hV dX3_addAct_116 ?_
        have t83 := zq_or_in (σ101 this 12) r113
        refine zr_putI (pc := 117) hV 12 dX3_addAct_117 fX3_55 rfl rfl rfl (zc_k4 kthis) (zc_pos kthis rfl) (fun σ117 eσ117 => ?_)
        have hσ117 : zc_T σ117 := zc_u4_12 eσ117 hσ101 kthis (by omega)
        have hFσ117 := zc_Fw eσ117 kthis rfl hFσ101
        have hOσ117 := zd_Ow eσ117 (by omega) hOσ101
        refine zr_goto (pc := 120) hV 136 dX3_addAct_120 (by decide) ?_
        show V 136 [some (ZR this), some (ZI target), some (ZI left), some (ZI sign), some (ZI right)] [] 284 σ117
        have t84 := zc_g4_6 hσ117 kthis
        have t85 : σ117 this 6 = σ101 this 6 := by rw [eσ117]; exact zq_up_ne (by omega)
        have t86 : σ101 this 6 = σ84 this 6 := by rw [eσ101]; exact zq_up_ne (by omega)
        have t87 : σ84 this 6 = σ57 this 6 := by rw [eσ84]; exact zq_up_ne (by omega)
        have t88 : σ57 this 6 = (σ49 this 6) + 1 := by rw [eσ57]; exact zq_up_same _ _ _ _
        exact zr_vret (pc := 136) hV dX3_addAct_136 rfl rfl ⟨rfl, hσ117, hFσ117, hOσ117, (by omega), (show zt_add σ σ117 this target left sign right from ⟨by omega, (by rw [zt_nm1_bs (by omega) (by omega), eσ117, zq_up_same, show σ101 this 12 = σ84 this 12 by omega, eσ84, zq_up_same, show σ57 this 12 = σ this 12 by omega, pr113, pr66]), (by unfold zt_am1; repeat (first | rw [if_pos (by omega)] | rw [if_neg (by omega)]); rw [eσ117, zq_up_ne (by omega), eσ101, zq_up_same, show σ84 this 13 = σ this 13 by omega]), (fun j => if hj : j = σ this 6 then (by rw [if_pos hj, hj, eσ117, zq_up_ne (by omega), eσ101, zq_up_ne (by omega), eσ84, zq_up_ne (by omega), eσ57, zq_up_ne (by omega), eσ49, zq_up_ne (by omega), eσ38, zq_up_ne (by omega), eσ28, zq_up_ne (by omega), eσ18, zq_up_same]) else (by rw [if_neg hj, eσ117, zq_up_ne (by omega), eσ101, zq_up_ne (by omega), eσ84, zq_up_ne (by omega), eσ57, zq_up_ne (by omega), eσ49, zq_up_ne (by omega), eσ38, zq_up_ne (by omega), eσ28, zq_up_ne (by omega), eσ18, zq_up_ne (by omega)])), (fun j => if hj : j = σ this 6 then (by rw [if_pos hj, hj, eσ117, zq_up_ne (by omega), eσ101, zq_up_ne (by omega), eσ84, zq_up_ne (by omega), eσ57, zq_up_ne (by omega), eσ49, zq_up_ne (by omega), eσ38, zq_up_ne (by omega), eσ28, show σ this 6 = σ18 this 6 by omega, zq_up_same]) else (by rw [if_neg hj, eσ117, zq_up_ne (by omega), eσ101, zq_up_ne (by omega), eσ84, zq_up_ne (by omega), eσ57, zq_up_ne (by omega), eσ49, zq_up_ne (by omega), eσ38, zq_up_ne (by omega), eσ28, zq_up_ne (by omega), eσ18, zq_up_ne (by omega)])), (fun j => if hj : j = σ this 6 then (by rw [if_pos hj, hj, eσ117, zq_up_ne (by omega), eσ101, zq_up_ne (by omega), eσ84, zq_up_ne (by omega), eσ57, zq_up_ne (by omega), eσ49, zq_up_ne (by omega), eσ38, show σ this 6 = σ28 this 6 by omega, zq_up_same]) else (by rw [if_neg hj, eσ117, zq_up_ne (by omega), eσ101, zq_up_ne (by omega), eσ84, zq_up_ne (by omega), eσ57, zq_up_ne (by omega), eσ49, zq_up_ne (by omega), eσ38, zq_up_ne (by omega), eσ28, zq_up_ne (by omega), eσ18, zq_up_ne (by omega)])), (fun j => if hj : j = σ this 6 then (by rw [if_pos hj, hj, eσ117, zq_up_ne (by omega), eσ101, zq_up_ne (by omega), eσ84, zq_up_ne (by omega), eσ57, zq_up_ne (by omega), eσ49, show σ this 6 = σ38 this 6 by omega, zq_up_same]) else (by rw [if_neg hj, eσ117, zq_up_ne (by omega), eσ101, zq_up_ne (by omega), eσ84, zq_up_ne (by omega), eσ57, zq_up_ne (by omega), eσ49, zq_up_ne (by omega), eσ38, zq_up_ne (by omega), eσ28, zq_up_ne (by omega), eσ18, zq_up_ne (by omega)]))⟩)⟩
  · exfalso; omega
set_option maxHeartbeats 800000 in
theorem c_X3_hasField_2 {σ : zq_S} (hσ : zc_T σ) (this : Int) (kthis : zc_kd this = 4) (f : Int) (q0 : 0 ≤ f ∧ f ≤ 3) : zq_C zc_w yX3_hasField cX3_hasField 2 (some .boolean) 0 0 284 284 [ZR this, ZI f] σ (zq_pp σ (fun r => (0 ≤ r ∧ r ≤ 1) ∧ (r = 1 ↔ σ (this + 1) f ≠ 0))) := by
  refine zq_C_of (by decide) (Nat.le_refl _) (Nat.le_of_ble_eq_true rfl) [some (ZR this), some (ZI f)] rfl (fun V hV => ?_)
  have pothis := zc_pos kthis rfl
  show V 0 [some (ZR this), some (ZI f)] [] 284 σ
  refine zr_aload_n (pc := 0) hV dX3_hasField_0 rfl rfl ?_
  refine zr_getR (pc := 1) hV 3 (this + 1) dX3_hasField_1 fX3_9 rfl rfl (zc_k4 kthis) (zc_pos kthis rfl) (zc_g4_3 hσ kthis) (zc_pos (zc_p4_1 kthis) rfl).1 ?_
  refine zr_iload_n (pc := 4) hV dX3_hasField_4 rfl rfl ?_
  refine zr_iald (pc := 5) hV dX3_hasField_5 (zc_k5 (zc_p4_1 kthis)) (zc_pos (zc_p4_1 kthis) rfl) rfl (by omega) ?_
  have t1 := zc_ga5 hσ (zc_p4_1 kthis) f
  refine zr_if_eq (pc := 6) hV 13 dX3_hasField_6 (by decide) (by omega) (fun c2 => ?_) (fun c2 => ?_)
  · show V 13 [some (ZR this), some (ZI f)] [] 284 σ
    refine zr_iconst (pc := 13) hV 0 dX3_hasField_13 rfl ?_
    show V 14 [some (ZR this), some (ZI f)] [ZI 0] 284 σ
    exact zr_zret (pc := 14) hV dX3_hasField_14 rfl rfl (by omega) ⟨rfl, _, rfl, ⟨by decide, by decide⟩, (by omega)⟩
  · show V 9 [some (ZR this), some (ZI f)] [] 284 σ
    refine zr_iconst (pc := 9) hV 1 dX3_hasField_9 rfl ?_
    refine zr_goto (pc := 10) hV 14 dX3_hasField_10 (by decide) ?_
    show V 14 [some (ZR this), some (ZI f)] [ZI 1] 284 σ
    exact zr_zret (pc := 14) hV dX3_hasField_14 rfl rfl (by omega) ⟨rfl, _, rfl, ⟨by decide, by decide⟩, (by omega)⟩
set_option maxHeartbeats 800000 in
theorem c_X4_fieldNamed_2 {σ : zq_S} (c : Int) (q0 : zq_in c) : zq_C zc_w yX4_fieldNamed cX4_fieldNamed 1 (some .int) 0 0 284 284 [ZI c] σ (zq_pp σ (fun r => ((-1) ≤ r ∧ r ≤ 3) ∧ r = zt_fl c)) := by
  refine zq_C_of (by decide) (Nat.le_refl _) (Nat.le_of_ble_eq_true rfl) [some (ZI c)] rfl (fun V hV => ?_)
  show V 0 [some (ZI c)] [] 284 σ
  refine zr_iload_n (pc := 0) hV dX4_fieldNamed_0 rfl rfl ?_
  by_cases c1 : c = 100
  · refine zr_eqI (V := V) 100 c1 ?_
    refine zr_lookup (pc := 1) hV 44 dX4_fieldNamed_1 ⟨by decide, by decide⟩ (by decide) rfl (by decide) ?_
    show V 44 [some (ZI c)] [] 284 σ
    refine zr_iconst (pc := 44) hV 0 dX4_fieldNamed_44 rfl ?_
    exact zr_iret (pc := 45) hV dX4_fieldNamed_45 rfl rfl ⟨rfl, _, rfl, ⟨by decide, by decide⟩, ⟨by omega, (by unfold zt_fl; repeat (first | rw [if_pos (by omega)] | rw [if_neg (by omega)]); all_goals omega)⟩⟩
  by_cases c2 : c = 105
  · refine zr_eqI (V := V) 105 c2 ?_
    refine zr_lookup (pc := 1) hV 50 dX4_fieldNamed_1 ⟨by decide, by decide⟩ (by decide) rfl (by decide) ?_
    show V 50 [some (ZI c)] [] 284 σ
    refine zr_iconst (pc := 50) hV 3 dX4_fieldNamed_50 rfl ?_
    exact zr_iret (pc := 51) hV dX4_fieldNamed_51 rfl rfl ⟨rfl, _, rfl, ⟨by decide, by decide⟩, ⟨by omega, (by unfold zt_fl; repeat (first | rw [if_pos (by omega)] | rw [if_neg (by omega)]); all_goals omega)⟩⟩
  by_cases c3 : c = 115
  · refine zr_eqI (V := V) 115 c3 ?_
    refine zr_lookup (pc := 1) hV 46 dX4_fieldNamed_1 ⟨by decide, by decide⟩ (by decide) rfl (by decide) ?_
    show V 46 [some (ZI c)] [] 284 σ
    refine zr_iconst (pc := 46) hV 1 dX4_fieldNamed_46 rfl ?_
    exact zr_iret (pc := 47) hV dX4_fieldNamed_47 rfl rfl ⟨rfl, _, rfl, ⟨by decide, by decide⟩, ⟨by omega, (by unfold zt_fl; repeat (first | rw [if_pos (by omega)] | rw [if_neg (by omega)]); all_goals omega)⟩⟩
  by_cases c4 : c = 116
  · refine zr_eqI (V := V) 116 c4 ?_
    refine zr_lookup (pc := 1) hV 48 dX4_fieldNamed_1 ⟨by decide, by decide⟩ (by decide) rfl (by decide) ?_
    show V 48 [some (ZI c)] [] 284 σ
    refine zr_iconst (pc := 48) hV 2 dX4_fieldNamed_48 rfl ?_
    exact zr_iret (pc := 49) hV dX4_fieldNamed_49 rfl rfl ⟨rfl, _, rfl, ⟨by decide, by decide⟩, ⟨by omega, (by unfold zt_fl; repeat (first | rw [if_pos (by omega)] | rw [if_neg (by omega)]); all_goals omega)⟩⟩
  refine zr_lookup (pc := 1) (off := 51) hV 52 dX4_fieldNamed_1 (by omega) (by decide) (by simp only [Op.lookupswitch.offset]; repeat (split <;> try omega)) (by decide) ?_
  show V 52 [some (ZI c)] [] 284 σ
  refine zr_iconst (pc := 52) hV (-1) dX4_fieldNamed_52 rfl ?_
  exact zr_iret (pc := 53) hV dX4_fieldNamed_53 rfl rfl ⟨rfl, _, rfl, ⟨by decide, by decide⟩, ⟨by omega, (by unfold zt_fl; repeat (first | rw [if_pos (by omega)] | rw [if_neg (by omega)]); all_goals omega)⟩⟩
set_option maxHeartbeats 800000 in
theorem c_X4_fieldInLook_2 {σ : zq_S} (hσ : zc_T σ) (c : Int) (sp : Int) (esp : σ 3 5 = sp) (ksp : zc_kd sp = 4) (q0 : zq_in c) : zq_C zc_w yX4_fieldInLook cX4_fieldInLook 3 (some .int) 1 21 284 284 [ZR 132, ZI c] σ (zq_pp σ (fun r => ((-1) ≤ r ∧ r ≤ 3) ∧ r = zt_fi (zt_H (σ (sp + 1))) c)) := by
  refine zq_C_of (by decide) (Nat.le_refl _) (Nat.le_of_ble_eq_true rfl) [some (ZR 132), some (ZI c), none] rfl (fun V hV => ?_)
  have posp := zc_pos ksp rfl
  show V 0 [some (ZR 132), some (ZI c), none] [] 284 σ
  refine zr_iload_n (pc := 0) hV dX4_fieldInLook_0 rfl rfl ?_
  refine zr_callSp (pc := 1) hV [ZI c] (st := []) (c_X4_fieldNamed_2 (σ := σ) c (by omega)) dX4_fieldInLook_1 mX4_80 (by decide) (Nat.le_of_ble_eq_true rfl) (Nat.le_refl _) (fun r1 hr1 pr1 => ?_)
  refine zr_istore_n (pc := 4) hV [some (ZR 132), some (ZI c), some (ZI r1)] dX4_fieldInLook_4 rfl (by decide) rfl rfl ?_
  refine zr_iload_n (pc := 5) hV dX4_fieldInLook_5 rfl rfl ?_
  refine zr_if_lt (pc := 6) hV 27 dX4_fieldInLook_6 (by decide) (by omega) (fun c1 => ?_) (fun c1 => ?_)
  · show V 27 [some (ZR 132), some (ZI c), some (ZI r1)] [] 284 σ
    refine zr_iconst (pc := 27) hV (-1) dX4_fieldInLook_27 rfl ?_
    show V 28 [some (ZR 132), some (ZI c), some (ZI r1)] [ZI (-1)] 284 σ
    exact zr_iret (pc := 28) hV dX4_fieldInLook_28 rfl rfl ⟨rfl, _, rfl, ⟨by decide, by decide⟩, ⟨by omega, (by rw [zt_fi_n (fun q => by first | exact absurd q.1 (by omega) | exact zt_H_n (m := σ (sp + 1)) (f := zt_fl c) (by rw [← pr1.2]; omega) q.2)])⟩⟩
  · show V 9 [some (ZR 132), some (ZI c), some (ZI r1)] [] 284 σ
    refine zr_aload_n (pc := 9) hV dX4_fieldInLook_9 rfl rfl ?_
    refine zr_getR (pc := 10) hV 1 3 dX4_fieldInLook_10 fX4_19 rfl rfl (zc_k132 zc_s132) (zc_pos zc_s132 rfl) (zc_g132_1 hσ zc_s132) (by decide) ?_
    refine zr_getR (pc := 13) hV 5 sp dX4_fieldInLook_13 fX4_49 rfl rfl (zc_k3 zc_s3) (zc_pos zc_s3 rfl) (by omega) (zc_pos ksp rfl).1 ?_
    refine zr_iload_n (pc := 16) hV dX4_fieldInLook_16 rfl rfl ?_
    refine zr_callVp (pc := 17) hV [ZI r1] (st := []) (c_X3_hasField_2 (σ := σ) hσ sp ksp r1 (by omega)) dX4_fieldInLook_17 mX4_99 (zc_k4 ksp) (zc_pos ksp rfl) (by decide) (Nat.le_of_ble_eq_true rfl) (Nat.le_refl _) (fun r17 hr17 pr17 => ?_)
    refine zr_if_eq (pc := 20) hV 27 dX4_fieldInLook_20 (by decide) (by omega) (fun c2 => ?_) (fun c2 => ?_)
    · show V 27 [some (ZR 132), some (ZI c), some (ZI r1)] [] 284 σ
      refine zr_iconst (pc := 27) hV (-1) dX4_fieldInLook_27 rfl ?_
      show V 28 [some (ZR 132), some (ZI c), some (ZI r1)] [ZI (-1)] 284 σ
      exact zr_iret (pc := 28) hV dX4_fieldInLook_28 rfl rfl ⟨rfl, _, rfl, ⟨by decide, by decide⟩, ⟨by omega, (by rw [zt_fi_n (fun q => by first | exact absurd q.1 (by omega) | exact zt_H_n (m := σ (sp + 1)) (f := zt_fl c) (by rw [← pr1.2]; omega) q.2)])⟩⟩
    · show V 23 [some (ZR 132), some (ZI c), some (ZI r1)] [] 284 σ
      refine zr_iload_n (pc := 23) hV dX4_fieldInLook_23 rfl rfl ?_
      refine zr_goto (pc := 24) hV 28 dX4_fieldInLook_24 (by decide) ?_
      show V 28 [some (ZR 132), some (ZI c), some (ZI r1)] [ZI r1] 284 σ
      exact zr_iret (pc := 28) hV dX4_fieldInLook_28 rfl rfl ⟨rfl, _, rfl, (by omega), ⟨by omega, (by rw [zt_fi_y ⟨by omega, by rw [← pr1.2]; exact zt_H_y (by omega) (by omega) (by omega)⟩]; omega)⟩⟩
set_option maxHeartbeats 800000 in
theorem c_X4_nextStore_2 {σ : zq_S} (hσ : zc_T σ) (sp : Int) (esp : σ 3 5 = sp) (ksp : zc_kd sp = 4)  : zq_C zc_w yX4_nextStore cX4_nextStore 2 (some .int) 2 43 284 284 [ZR 132] σ (zq_pi (fun r τ => zc_T τ ∧ zc_Fr [(1, 2)] σ τ ∧ (((-1) ≤ r ∧ r ≤ 5) ∧ r = zt_ns (zt_H (σ (sp + 1))) (zt_nx (σ 2) (σ 1 1) (σ 1 2)) ∧ τ 1 2 = (zt_sk (σ 2) (σ 1 1) (σ 1 2))))) := by
  refine zq_C_of (by decide) (Nat.le_refl _) (Nat.le_of_ble_eq_true rfl) [some (ZR 132), none] rfl (fun V hV => ?_)
  have hFσ := zc_Fr_rf [(1, 2)] σ
  have posp := zc_pos ksp rfl
  show V 0 [some (ZR 132), none] [] 284 σ
  refine zr_aload_n (pc := 0) hV dX4_nextStore_0 rfl rfl ?_
  refine zr_getR (pc := 1) hV 0 1 dX4_nextStore_1 fX4_15 rfl rfl (zc_k132 zc_s132) (zc_pos zc_s132 rfl) (zc_g132_0 hσ zc_s132) (by decide) ?_
  refine zr_callVi (pc := 4) hV [] (st := []) (c_X8_next_2 (σ := σ) hσ) dX4_nextStore_4 mX4_45 (zc_k1 zc_s1) (zc_pos zc_s1 rfl) (by decide) (Nat.le_of_ble_eq_true rfl) (Nat.le_refl _) (fun r4 σ4 hr4 pσ4 => ?_)
  obtain ⟨hσ4, hfσ4, pσ4⟩ := pσ4
  have hFσ4 := zc_Fc hfσ4 rfl hFσ
  have t1 := zc_g1_1 hσ zc_s1
  have t2 := zc_g1_2 hσ zc_s1
  have t3 := zc_g1_2 hσ4 zc_s1
  refine zr_istore_n (pc := 7) hV [some (ZR 132), some (ZI r4)] dX4_nextStore_7 rfl (by decide) rfl rfl ?_
  refine zr_iload_n (pc := 8) hV dX4_nextStore_8 rfl rfl ?_
  refine zr_bipush (pc := 9) hV 122 dX4_nextStore_9 (by decide) ?_
  refine zr_icmp_ne (pc := 11) hV 18 dX4_nextStore_11 (by decide) (by omega) ⟨by decide, by decide⟩ (fun c4 => ?_) (fun c4 => ?_)
  · show V 18 [some (ZR 132), some (ZI r4)] [] 284 σ4
    refine zr_iload_n (pc := 18) hV dX4_nextStore_18 rfl rfl ?_
    refine zr_bipush (pc := 19) hV 112 dX4_nextStore_19 (by decide) ?_
    refine zr_icmp_ne (pc := 21) hV 28 dX4_nextStore_21 (by decide) (by omega) ⟨by decide, by decide⟩ (fun c5 => ?_) (fun c5 => ?_)
    · show V 28 [some (ZR 132), some (ZI r4)] [] 284 σ4
      refine zr_aload_n (pc := 28) hV dX4_nextStore_28 rfl rfl ?_
      refine zr_iload_n (pc := 29) hV dX4_nextStore_29 rfl rfl ?_
      have t6 : σ4 3 5 = σ 3 5 := hfσ4 _ _ (zc_out_at zc_s3 rfl)
      refine zr_callVp (pc := 30) hV [ZI r4] (st := []) (c_X4_fieldInLook_2 (σ := σ4) hσ4 r4 sp (by omega) ksp (by omega)) dX4_nextStore_30 mX4_140 (zc_k132 zc_s132) (zc_pos zc_s132 rfl) (by decide) (Nat.le_of_ble_eq_true rfl) (Nat.le_refl _) (fun r30 hr30 pr30 => ?_)
      have Hσ4 : σ4 (sp + 1) = σ (sp + 1) := funext (fun i => hFσ4 (sp + 1) i (zc_out_ar (zc_p4_1 ksp) rfl))
      rw [Hσ4] at pr30
      show V 33 [some (ZR 132), some (ZI r4)] [ZI r30] 284 σ4
      have t7 := zc_g1_2 hσ4 zc_s1
      exact zr_iret (pc := 33) hV dX4_nextStore_33 rfl rfl ⟨_, rfl, (by omega), hσ4, hFσ4, ⟨by omega, ⟨by rw [zt_ns_f _ (by omega) (by omega), ← pσ4.2.2]; omega, by omega⟩⟩⟩
    · show V 24 [some (ZR 132), some (ZI r4)] [] 284 σ4
      refine zr_iconst (pc := 24) hV 5 dX4_nextStore_24 rfl ?_
      refine zr_goto (pc := 25) hV 33 dX4_nextStore_25 (by decide) ?_
      show V 33 [some (ZR 132), some (ZI r4)] [ZI 5] 284 σ4
      have t8 := zc_g1_2 hσ4 zc_s1
      exact zr_iret (pc := 33) hV dX4_nextStore_33 rfl rfl ⟨_, rfl, ⟨by decide, by decide⟩, hσ4, hFσ4, ⟨by omega, ⟨by rw [zt_ns_p _ (by omega)], by omega⟩⟩⟩
  · show V 14 [some (ZR 132), some (ZI r4)] [] 284 σ4
    refine zr_iconst (pc := 14) hV 4 dX4_nextStore_14 rfl ?_
    refine zr_goto (pc := 15) hV 33 dX4_nextStore_15 (by decide) ?_
    show V 33 [some (ZR 132), some (ZI r4)] [ZI 4] 284 σ4
    have t9 := zc_g1_2 hσ4 zc_s1
    exact zr_iret (pc := 33) hV dX4_nextStore_33 rfl rfl ⟨_, rfl, ⟨by decide, by decide⟩, hσ4, hFσ4, ⟨by omega, ⟨by rw [zt_ns_z _ (by omega)], by omega⟩⟩⟩
set_option maxHeartbeats 800000 in
theorem c_X4_readMemory_2 {σ : zq_S} (hσ : zc_T σ) (sp : Int) (esp : σ 3 5 = sp) (ksp : zc_kd sp = 4)  : zq_C zc_w yX4_readMemory cX4_readMemory 2 (some .int) 2 43 284 284 [ZR 132] σ (zq_pi (fun r τ => zc_T τ ∧ zc_Fr [(1, 2)] σ τ ∧ (((-1) ≤ r ∧ r ≤ 9) ∧ r = zt_meR (zt_H (σ (sp + 1))) (σ 2) (σ 1 1) (σ 1 2) ∧ τ 1 2 = zt_meA (zt_H (σ (sp + 1))) (σ 2) (σ 1 1) (σ 1 2)))) := by
  refine zq_C_of (by decide) (Nat.le_refl _) (Nat.le_of_ble_eq_true rfl) [some (ZR 132), none] rfl (fun V hV => ?_)
  have hFσ := zc_Fr_rf [(1, 2)] σ
  have posp := zc_pos ksp rfl
  show V 0 [some (ZR 132), none] [] 284 σ
  refine zr_aload_n (pc := 0) hV dX4_readMemory_0 rfl rfl ?_
  refine zr_aload_n (pc := 1) hV dX4_readMemory_1 rfl rfl ?_
  refine zr_getR (pc := 2) hV 0 1 dX4_readMemory_2 fX4_15 rfl rfl (zc_k132 zc_s132) (zc_pos zc_s132 rfl) (zc_g132_0 hσ zc_s132) (by decide) ?_
  refine zr_callVi (pc := 5) hV [] (st := [ZR 132]) (c_X8_next_2 (σ := σ) hσ) dX4_readMemory_5 mX4_45 (zc_k1 zc_s1) (zc_pos zc_s1 rfl) (by decide) (Nat.le_of_ble_eq_true rfl) (Nat.le_refl _) (fun r5 σ5 hr5 pσ5 => ?_)
  obtain ⟨hσ5, hfσ5, pσ5⟩ := pσ5
  have hFσ5 := zc_Fc hfσ5 rfl hFσ
  have t1 := zc_g1_1 hσ zc_s1
  have t2 := zc_g1_2 hσ zc_s1
  have t3 := zc_g1_2 hσ5 zc_s1
  have t4 : σ5 3 5 = σ 3 5 := hfσ5 _ _ (zc_out_at zc_s3 rfl)
  refine zr_callVp (pc := 8) hV [ZI r5] (st := []) (c_X4_fieldInLook_2 (σ := σ5) hσ5 r5 sp (by omega) ksp (by omega)) dX4_readMemory_8 mX4_140 (zc_k132 zc_s132) (zc_pos zc_s132 rfl) (by decide) (Nat.le_of_ble_eq_true rfl) (Nat.le_refl _) (fun r8 hr8 pr8 => ?_)
  have Hσ5 : σ5 (sp + 1) = σ (sp + 1) := funext (fun i => hFσ5 (sp + 1) i (zc_out_ar (zc_p4_1 ksp) rfl))
  rw [Hσ5] at pr8
  refine zr_istore_n (pc := 11) hV [some (ZR 132), some (ZI r8)] dX4_readMemory_11 rfl (by decide) rfl rfl ?_
  have zf : r8 = zt_fi (zt_H (σ (sp + 1))) (zt_nx (σ 2) (σ 1 1) (σ 1 2)) := by rw [← pσ5.2.2]; omega
  have zfb := zt_fi_b (zt_H (σ (sp + 1))) (zt_nx (σ 2) (σ 1 1) (σ 1 2))
  refine zr_iload_n (pc := 12) hV dX4_readMemory_12 rfl rfl ?_
  refine zr_iconst (pc := 13) hV (-1) dX4_readMemory_13 rfl ?_
  refine zr_icmp_ne (pc := 14) hV 19 dX4_readMemory_14 (by decide) (by omega) ⟨by decide, by decide⟩ (fun c5 => ?_) (fun c5 => ?_)
  · show V 19 [some (ZR 132), some (ZI r8)] [] 284 σ5
    refine zr_aload_n (pc := 19) hV dX4_readMemory_19 rfl rfl ?_
    refine zr_getR (pc := 20) hV 0 1 dX4_readMemory_20 fX4_15 rfl rfl (zc_k132 zc_s132) (zc_pos zc_s132 rfl) (zc_g132_0 hσ5 zc_s132) (by decide) ?_
    refine zr_callVv (pc := 23) hV [] (st := []) (c_X8_pass_2 (σ := σ5) hσ5) dX4_readMemory_23 mX4_92 (zc_k1 zc_s1) (zc_pos zc_s1 rfl) (by decide) (Nat.le_of_ble_eq_true rfl) (Nat.le_refl _) (fun σ23 pσ23 => ?_)
    obtain ⟨hσ23, hfσ23, pσ23⟩ := pσ23
    have hFσ23 := zc_Fc hfσ23 rfl hFσ5
    have t6 := zc_g1_1 hσ5 zc_s1
    have t7 : σ5 1 1 = σ 1 1 := hfσ5 _ _ (zc_out_at zc_s1 rfl)
    have t8 := zc_g1_2 hσ5 zc_s1
    have t9 := zc_g1_2 hσ23 zc_s1
    have zi := zt_nx_in (t := σ 2) (n := σ 1 1) (a := σ 1 2) (by omega)
    have za : σ23 1 2 = (zt_sk (σ 2) (σ 1 1) (σ 1 2)) + 1 := by omega
    refine zr_aload_n (pc := 26) hV dX4_readMemory_26 rfl rfl ?_
    refine zr_getR (pc := 27) hV 0 1 dX4_readMemory_27 fX4_15 rfl rfl (zc_k132 zc_s132) (zc_pos zc_s132 rfl) (zc_g132_0 hσ23 zc_s132) (by decide) ?_
    refine zr_bipush (pc := 30) hV 93 dX4_readMemory_30 (by decide) ?_
    refine zr_callVi (pc := 32) hV [ZI 93] (st := []) (c_X8_takes_2 (σ := σ23) hσ23 93 (by omega)) dX4_readMemory_32 mX4_27 (zc_k1 zc_s1) (zc_pos zc_s1 rfl) (by decide) (Nat.le_of_ble_eq_true rfl) (Nat.le_refl _) (fun r32 σ32 hr32 pσ32 => ?_)
    obtain ⟨hσ32, hfσ32, pσ32⟩ := pσ32
    have hFσ32 := zc_Fc hfσ32 rfl hFσ23
    have t10 := zc_g1_1 hσ23 zc_s1
    have t11 : σ23 1 1 = σ5 1 1 := hfσ23 _ _ (zc_out_at zc_s1 rfl)
    have t12 : σ5 1 1 = σ 1 1 := hfσ5 _ _ (zc_out_at zc_s1 rfl)
    have t13 := zc_g1_2 hσ23 zc_s1
    have Tσ23 : σ23 2 = σ 2 := funext (fun i => hFσ23 2 i (zc_out_ar zc_s2 rfl))
    have Nσ23 : σ23 1 1 = σ 1 1 := hFσ23 1 1 (zc_out_at zc_s1 rfl)
    rw [Tσ23, Nσ23] at pσ32
    have t14 := zc_g1_2 hσ32 zc_s1
    rw [za] at pσ32
    refine zr_if_eq (pc := 35) hV 45 dX4_readMemory_35 (by decide) (by omega) (fun c15 => ?_) (fun c15 => ?_)
    · show V 45 [some (ZR 132), some (ZI r8)] [] 284 σ32
      refine zr_iconst (pc := 45) hV (-1) dX4_readMemory_45 rfl ?_
      show V 46 [some (ZR 132), some (ZI r8)] [ZI (-1)] 284 σ32
      have t16 := zc_g1_2 hσ32 zc_s1
      exact zr_iret (pc := 46) hV dX4_readMemory_46 rfl rfl ⟨_, rfl, ⟨by decide, by decide⟩, hσ32, hFσ32, ⟨by omega, ⟨(by unfold zt_meR; repeat (first | rw [if_pos (by omega)] | rw [if_neg (by omega)]); all_goals omega), (by unfold zt_meA; repeat (first | rw [if_pos (by omega)] | rw [if_neg (by omega)]); all_goals omega)⟩⟩⟩
    · show V 38 [some (ZR 132), some (ZI r8)] [] 284 σ32
      refine zr_bipush (pc := 38) hV 6 dX4_readMemory_38 (by decide) ?_
      refine zr_iload_n (pc := 40) hV dX4_readMemory_40 rfl rfl ?_
      refine zr_iadd (pc := 41) hV dX4_readMemory_41 ?_
      refine zr_goto (pc := 42) hV 46 dX4_readMemory_42 (by decide) ?_
      show V 46 [some (ZR 132), some (ZI r8)] [ZI (6 + r8)] 284 σ32
      have t17 := zc_g1_2 hσ32 zc_s1
      exact zr_iret (pc := 46) hV dX4_readMemory_46 rfl rfl ⟨_, rfl, (by omega), hσ32, hFσ32, ⟨by omega, ⟨(by unfold zt_meR; repeat (first | rw [if_pos (by omega)] | rw [if_neg (by omega)]); all_goals omega), (by unfold zt_meA; repeat (first | rw [if_pos (by omega)] | rw [if_neg (by omega)]); all_goals omega)⟩⟩⟩
  · show V 17 [some (ZR 132), some (ZI r8)] [] 284 σ5
    refine zr_iconst (pc := 17) hV (-1) dX4_readMemory_17 rfl ?_
    have t18 := zc_g1_2 hσ5 zc_s1
    exact zr_iret (pc := 18) hV dX4_readMemory_18 rfl rfl ⟨_, rfl, ⟨by decide, by decide⟩, hσ5, hFσ5, ⟨by omega, ⟨(by unfold zt_meR; repeat (first | rw [if_pos (by omega)] | rw [if_neg (by omega)]); all_goals omega), (by unfold zt_meA; repeat (first | rw [if_pos (by omega)] | rw [if_neg (by omega)]); all_goals omega)⟩⟩⟩
set_option maxHeartbeats 800000 in
theorem c_X4_readTarget_2 {σ : zq_S} (hσ : zc_T σ) (sp : Int) (esp : σ 3 5 = sp) (ksp : zc_kd sp = 4)  : zq_C zc_w yX4_readTarget cX4_readTarget 2 (some .int) 3 64 284 284 [ZR 132] σ (zq_pi (fun r τ => zc_T τ ∧ zc_Fr [(1, 2)] σ τ ∧ (((-1) ≤ r ∧ r ≤ 9) ∧ r = zt_tgR (zt_H (σ (sp + 1))) (σ 2) (σ 1 1) (σ 1 2) ∧ τ 1 2 = zt_tgA (zt_H (σ (sp + 1))) (σ 2) (σ 1 1) (σ 1 2)))) := by
  refine zq_C_of (by decide) (Nat.le_refl _) (Nat.le_of_ble_eq_true rfl) [some (ZR 132), none] rfl (fun V hV => ?_)
  have hFσ := zc_Fr_rf [(1, 2)] σ
  have posp := zc_pos ksp rfl
  show V 0 [some (ZR 132), none] [] 284 σ
  refine zr_aload_n (pc := 0) hV dX4_readTarget_0 rfl rfl ?_
  refine zr_getR (pc := 1) hV 0 1 dX4_readTarget_1 fX4_15 rfl rfl (zc_k132 zc_s132) (zc_pos zc_s132 rfl) (zc_g132_0 hσ zc_s132) (by decide) ?_
  refine zr_bipush (pc := 4) hV 91 dX4_readTarget_4 (by decide) ?_
  refine zr_callVi (pc := 6) hV [ZI 91] (st := []) (c_X8_takes_2 (σ := σ) hσ 91 (by omega)) dX4_readTarget_6 mX4_27 (zc_k1 zc_s1) (zc_pos zc_s1 rfl) (by decide) (Nat.le_of_ble_eq_true rfl) (Nat.le_refl _) (fun r6 σ6 hr6 pσ6 => ?_)
  obtain ⟨hσ6, hfσ6, pσ6⟩ := pσ6
  have hFσ6 := zc_Fc hfσ6 rfl hFσ
  have t1 := zc_g1_1 hσ zc_s1
  have t2 := zc_g1_2 hσ zc_s1
  have t3 := zc_g1_2 hσ6 zc_s1
  refine zr_if_eq (pc := 9) hV 17 dX4_readTarget_9 (by decide) (by omega) (fun c4 => ?_) (fun c4 => ?_)
  · show V 17 [some (ZR 132), none] [] 284 σ6
    have zn := zt_tk_n (t := σ 2) (n := σ 1 1) (c := 91) (a := σ 1 2) (by omega)
    refine zr_aload_n (pc := 17) hV dX4_readTarget_17 rfl rfl ?_
    have t5 : σ6 3 5 = σ 3 5 := hfσ6 _ _ (zc_out_at zc_s3 rfl)
    refine zr_callVi (pc := 18) hV [] (st := []) (c_X4_nextStore_2 (σ := σ6) hσ6 sp (by omega) ksp) dX4_readTarget_18 mX4_111 (zc_k132 zc_s132) (zc_pos zc_s132 rfl) (by decide) (Nat.le_of_ble_eq_true rfl) (Nat.le_refl _) (fun r18 σ18 hr18 pσ18 => ?_)
    obtain ⟨hσ18, hfσ18, pσ18⟩ := pσ18
    have hFσ18 := zc_Fc hfσ18 rfl hFσ6
    have t6 := zc_g1_1 hσ6 zc_s1
    have t7 : σ6 1 1 = σ 1 1 := hfσ6 _ _ (zc_out_at zc_s1 rfl)
    have t8 := zc_g1_2 hσ6 zc_s1
    have Tσ6 : σ6 2 = σ 2 := funext (fun i => hFσ6 2 i (zc_out_ar zc_s2 rfl))
    have Nσ6 : σ6 1 1 = σ 1 1 := hFσ6 1 1 (zc_out_at zc_s1 rfl)
    have Hσ6 : σ6 (sp + 1) = σ (sp + 1) := funext (fun i => hFσ6 (sp + 1) i (zc_out_ar (zc_p4_1 ksp) rfl))
    rw [Tσ6, Nσ6, Hσ6] at pσ18
    have t9 := zc_g1_2 hσ18 zc_s1
    rw [show σ6 1 2 = (zt_sk (σ 2) (σ 1 1) (σ 1 2)) by omega, zt_nx_i, zt_sk_i] at pσ18
    have znb := zt_ns_b (zt_H (σ (sp + 1))) (zt_nx (σ 2) (σ 1 1) (σ 1 2))
    refine zr_istore_n (pc := 21) hV [some (ZR 132), some (ZI r18)] dX4_readTarget_21 rfl (by decide) rfl rfl ?_
    refine zr_iload_n (pc := 22) hV dX4_readTarget_22 rfl rfl ?_
    refine zr_iconst (pc := 23) hV (-1) dX4_readTarget_23 rfl ?_
    refine zr_icmp_eq (pc := 24) hV 32 dX4_readTarget_24 (by decide) (by omega) ⟨by decide, by decide⟩ (fun c10 => ?_) (fun c10 => ?_)
    · show V 32 [some (ZR 132), some (ZI r18)] [] 284 σ18
      refine zr_iconst (pc := 32) hV (-1) dX4_readTarget_32 rfl ?_
      have t11 := zc_g1_2 hσ18 zc_s1
      exact zr_iret (pc := 33) hV dX4_readTarget_33 rfl rfl ⟨_, rfl, ⟨by decide, by decide⟩, hσ18, hFσ18, ⟨by omega, ⟨(by unfold zt_tgR; repeat (first | rw [if_pos (by omega)] | rw [if_neg (by omega)]); all_goals omega), (by unfold zt_tgA; repeat (first | rw [if_pos (by omega)] | rw [if_neg (by omega)]); all_goals omega)⟩⟩⟩
    · show V 27 [some (ZR 132), some (ZI r18)] [] 284 σ18
      refine zr_iload_n (pc := 27) hV dX4_readTarget_27 rfl rfl ?_
      refine zr_iconst (pc := 28) hV 3 dX4_readTarget_28 rfl ?_
      refine zr_icmp_ne (pc := 29) hV 34 dX4_readTarget_29 (by decide) (by omega) ⟨by decide, by decide⟩ (fun c12 => ?_) (fun c12 => ?_)
      · show V 34 [some (ZR 132), some (ZI r18)] [] 284 σ18
        have zi := zt_nx_in (t := σ 2) (n := σ 1 1) (a := σ 1 2) (by omega)
        refine zr_aload_n (pc := 34) hV dX4_readTarget_34 rfl rfl ?_
        refine zr_getR (pc := 35) hV 0 1 dX4_readTarget_35 fX4_15 rfl rfl (zc_k132 zc_s132) (zc_pos zc_s132 rfl) (zc_g132_0 hσ18 zc_s132) (by decide) ?_
        refine zr_callVv (pc := 38) hV [] (st := []) (c_X8_pass_2 (σ := σ18) hσ18) dX4_readTarget_38 mX4_92 (zc_k1 zc_s1) (zc_pos zc_s1 rfl) (by decide) (Nat.le_of_ble_eq_true rfl) (Nat.le_refl _) (fun σ38 pσ38 => ?_)
        obtain ⟨hσ38, hfσ38, pσ38⟩ := pσ38
        have hFσ38 := zc_Fc hfσ38 rfl hFσ18
        have t13 := zc_g1_1 hσ18 zc_s1
        have t14 : σ18 1 1 = σ6 1 1 := hfσ18 _ _ (zc_out_at zc_s1 rfl)
        have t15 : σ6 1 1 = σ 1 1 := hfσ6 _ _ (zc_out_at zc_s1 rfl)
        have t16 := zc_g1_2 hσ18 zc_s1
        have t17 := zc_g1_2 hσ38 zc_s1
        refine zr_iload_n (pc := 41) hV dX4_readTarget_41 rfl rfl ?_
        have t18 := zc_g1_2 hσ38 zc_s1
        exact zr_iret (pc := 42) hV dX4_readTarget_42 rfl rfl ⟨_, rfl, (by omega), hσ38, hFσ38, ⟨by omega, ⟨(by unfold zt_tgR; repeat (first | rw [if_pos (by omega)] | rw [if_neg (by omega)]); all_goals omega), (by unfold zt_tgA; repeat (first | rw [if_pos (by omega)] | rw [if_neg (by omega)]); all_goals omega)⟩⟩⟩
      · show V 32 [some (ZR 132), some (ZI r18)] [] 284 σ18
        refine zr_iconst (pc := 32) hV (-1) dX4_readTarget_32 rfl ?_
        have t19 := zc_g1_2 hσ18 zc_s1
        exact zr_iret (pc := 33) hV dX4_readTarget_33 rfl rfl ⟨_, rfl, ⟨by decide, by decide⟩, hσ18, hFσ18, ⟨by omega, ⟨(by unfold zt_tgR; repeat (first | rw [if_pos (by omega)] | rw [if_neg (by omega)]); all_goals omega), (by unfold zt_tgA; repeat (first | rw [if_pos (by omega)] | rw [if_neg (by omega)]); all_goals omega)⟩⟩⟩
  · show V 12 [some (ZR 132), none] [] 284 σ6
    have zy := zt_tk_y (t := σ 2) (n := σ 1 1) (c := 91) (a := σ 1 2) (by omega)
    refine zr_aload_n (pc := 12) hV dX4_readTarget_12 rfl rfl ?_
    have t20 : σ6 3 5 = σ 3 5 := hfσ6 _ _ (zc_out_at zc_s3 rfl)
    refine zr_callVi (pc := 13) hV [] (st := []) (c_X4_readMemory_2 (σ := σ6) hσ6 sp (by omega) ksp) dX4_readTarget_13 mX4_134 (zc_k132 zc_s132) (zc_pos zc_s132 rfl) (by decide) (Nat.le_of_ble_eq_true rfl) (Nat.le_refl _) (fun r13 σ13 hr13 pσ13 => ?_)
    obtain ⟨hσ13, hfσ13, pσ13⟩ := pσ13
    have hFσ13 := zc_Fc hfσ13 rfl hFσ6
    have t21 := zc_g1_1 hσ6 zc_s1
    have t22 : σ6 1 1 = σ 1 1 := hfσ6 _ _ (zc_out_at zc_s1 rfl)
    have t23 := zc_g1_2 hσ6 zc_s1
    have Tσ6 : σ6 2 = σ 2 := funext (fun i => hFσ6 2 i (zc_out_ar zc_s2 rfl))
    have Nσ6 : σ6 1 1 = σ 1 1 := hFσ6 1 1 (zc_out_at zc_s1 rfl)
    have Hσ6 : σ6 (sp + 1) = σ (sp + 1) := funext (fun i => hFσ6 (sp + 1) i (zc_out_ar (zc_p4_1 ksp) rfl))
    rw [Tσ6, Nσ6, Hσ6] at pσ13
    have t24 := zc_g1_2 hσ13 zc_s1
    rw [show σ6 1 2 = (zt_sk (σ 2) (σ 1 1) (σ 1 2)) + 1 by omega] at pσ13
    have t25 := zc_g1_2 hσ13 zc_s1
    exact zr_iret (pc := 16) hV dX4_readTarget_16 rfl rfl ⟨_, rfl, (by omega), hσ13, hFσ13, ⟨by omega, ⟨(by unfold zt_tgR; repeat (first | rw [if_pos (by omega)] | rw [if_neg (by omega)]); all_goals omega), (by unfold zt_tgA; repeat (first | rw [if_pos (by omega)] | rw [if_neg (by omega)]); all_goals omega)⟩⟩⟩
set_option maxHeartbeats 800000 in
theorem c_X4_readOperand_2 {σ : zq_S} (hσ : zc_T σ) (sp : Int) (esp : σ 3 5 = sp) (ksp : zc_kd sp = 4)  : zq_C zc_w yX4_readOperand cX4_readOperand 3 (some .int) 3 64 284 284 [ZR 132] σ (zq_pi (fun r τ => zc_T τ ∧ zc_Fr [(1, 2), (1, 3)] σ τ ∧ (((-1) ≤ r ∧ r ≤ 271) ∧ zc_op r ∧ r = zt_opR (zt_H (σ (sp + 1))) (σ 2) (σ 1 1) (σ 1 2) ∧ τ 1 2 = zt_opA (zt_H (σ (sp + 1))) (σ 2) (σ 1 1) (σ 1 2)))) := by
  refine zq_C_of (by decide) (Nat.le_refl _) (Nat.le_of_ble_eq_true rfl) [some (ZR 132), none, none] rfl (fun V hV => ?_)
  have hFσ := zc_Fr_rf [(1, 2), (1, 3)] σ
  have posp := zc_pos ksp rfl
  show V 0 [some (ZR 132), none, none] [] 284 σ
  refine zr_aload_n (pc := 0) hV dX4_readOperand_0 rfl rfl ?_
  refine zr_getR (pc := 1) hV 0 1 dX4_readOperand_1 fX4_15 rfl rfl (zc_k132 zc_s132) (zc_pos zc_s132 rfl) (zc_g132_0 hσ zc_s132) (by decide) ?_
  refine zr_bipush (pc := 4) hV 91 dX4_readOperand_4 (by decide) ?_
  refine zr_callVi (pc := 6) hV [ZI 91] (st := []) (c_X8_takes_2 (σ := σ) hσ 91 (by omega)) dX4_readOperand_6 mX4_27 (zc_k1 zc_s1) (zc_pos zc_s1 rfl) (by decide) (Nat.le_of_ble_eq_true rfl) (Nat.le_refl _) (fun r6 σ6 hr6 pσ6 => ?_)
  obtain ⟨hσ6, hfσ6, pσ6⟩ := pσ6
  have hFσ6 := zc_Fc hfσ6 rfl hFσ
  have t1 := zc_g1_1 hσ zc_s1
  have t2 := zc_g1_2 hσ zc_s1
  have t3 := zc_g1_2 hσ6 zc_s1
  refine zr_if_eq (pc := 9) hV 17 dX4_readOperand_9 (by decide) (by omega) (fun c4 => ?_) (fun c4 => ?_)
  · show V 17 [some (ZR 132), none, none] [] 284 σ6
    have zn := zt_tk_n (t := σ 2) (n := σ 1 1) (c := 91) (a := σ 1 2) (by omega)
    refine zr_aload_n (pc := 17) hV dX4_readOperand_17 rfl rfl ?_
    have t5 : σ6 3 5 = σ 3 5 := hfσ6 _ _ (zc_out_at zc_s3 rfl)
    refine zr_callVi (pc := 18) hV [] (st := []) (c_X4_nextStore_2 (σ := σ6) hσ6 sp (by omega) ksp) dX4_readOperand_18 mX4_111 (zc_k132 zc_s132) (zc_pos zc_s132 rfl) (by decide) (Nat.le_of_ble_eq_true rfl) (Nat.le_refl _) (fun r18 σ18 hr18 pσ18 => ?_)
    obtain ⟨hσ18, hfσ18, pσ18⟩ := pσ18
    have hFσ18 := zc_Fc hfσ18 rfl hFσ6
    have t6 := zc_g1_1 hσ6 zc_s1
    have t7 : σ6 1 1 = σ 1 1 := hfσ6 _ _ (zc_out_at zc_s1 rfl)
    have t8 := zc_g1_2 hσ6 zc_s1
    have Tσ6 : σ6 2 = σ 2 := funext (fun i => hFσ6 2 i (zc_out_ar zc_s2 rfl))
    have Nσ6 : σ6 1 1 = σ 1 1 := hFσ6 1 1 (zc_out_at zc_s1 rfl)
    have Hσ6 : σ6 (sp + 1) = σ (sp + 1) := funext (fun i => hFσ6 (sp + 1) i (zc_out_ar (zc_p4_1 ksp) rfl))
    rw [Tσ6, Nσ6, Hσ6] at pσ18
    have t9 := zc_g1_2 hσ18 zc_s1
    rw [show σ6 1 2 = (zt_sk (σ 2) (σ 1 1) (σ 1 2)) by omega, zt_nx_i, zt_sk_i] at pσ18
    have znb := zt_ns_b (zt_H (σ (sp + 1))) (zt_nx (σ 2) (σ 1 1) (σ 1 2))
    refine zr_istore_n (pc := 21) hV [some (ZR 132), some (ZI r18), none] dX4_readOperand_21 rfl (by decide) rfl rfl ?_
    refine zr_iload_n (pc := 22) hV dX4_readOperand_22 rfl rfl ?_
    refine zr_iconst (pc := 23) hV (-1) dX4_readOperand_23 rfl ?_
    refine zr_icmp_ne (pc := 24) hV 51 dX4_readOperand_24 (by decide) (by omega) ⟨by decide, by decide⟩ (fun c10 => ?_) (fun c10 => ?_)
    · show V 51 [some (ZR 132), some (ZI r18), none] [] 284 σ18
      have zi := zt_nx_in (t := σ 2) (n := σ 1 1) (a := σ 1 2) (by omega)
      refine zr_aload_n (pc := 51) hV dX4_readOperand_51 rfl rfl ?_
      refine zr_getR (pc := 52) hV 0 1 dX4_readOperand_52 fX4_15 rfl rfl (zc_k132 zc_s132) (zc_pos zc_s132 rfl) (zc_g132_0 hσ18 zc_s132) (by decide) ?_
      refine zr_callVv (pc := 55) hV [] (st := []) (c_X8_pass_2 (σ := σ18) hσ18) dX4_readOperand_55 mX4_92 (zc_k1 zc_s1) (zc_pos zc_s1 rfl) (by decide) (Nat.le_of_ble_eq_true rfl) (Nat.le_refl _) (fun σ55 pσ55 => ?_)
      obtain ⟨hσ55, hfσ55, pσ55⟩ := pσ55
      have hFσ55 := zc_Fc hfσ55 rfl hFσ18
      have t11 := zc_g1_1 hσ18 zc_s1
      have t12 : σ18 1 1 = σ6 1 1 := hfσ18 _ _ (zc_out_at zc_s1 rfl)
      have t13 : σ6 1 1 = σ 1 1 := hfσ6 _ _ (zc_out_at zc_s1 rfl)
      have t14 := zc_g1_2 hσ18 zc_s1
      have t15 := zc_g1_2 hσ55 zc_s1
      refine zr_iload_n (pc := 58) hV dX4_readOperand_58 rfl rfl ?_
      have t16 := zc_g1_2 hσ55 zc_s1
      exact zr_iret (pc := 59) hV dX4_readOperand_59 rfl rfl ⟨_, rfl, (by omega), hσ55, hFσ55, ⟨by omega, ⟨by unfold zc_op; omega, (by unfold zt_opR; repeat (first | rw [if_pos (by omega)] | rw [if_neg (by omega)]); all_goals omega), (by unfold zt_opA; repeat (first | rw [if_pos (by omega)] | rw [if_neg (by omega)]); all_goals omega)⟩⟩⟩
    · show V 27 [some (ZR 132), some (ZI r18), none] [] 284 σ18
      refine zr_aload_n (pc := 27) hV dX4_readOperand_27 rfl rfl ?_
      refine zr_getR (pc := 28) hV 0 1 dX4_readOperand_28 fX4_15 rfl rfl (zc_k132 zc_s132) (zc_pos zc_s132 rfl) (zc_g132_0 hσ18 zc_s132) (by decide) ?_
      refine zr_sipush (pc := 31) hV 255 dX4_readOperand_31 (by decide) ?_
      refine zr_callVi (pc := 34) hV [ZI 255] (st := []) (c_X8_takeNumber_2 (σ := σ18) hσ18 255 (by omega)) dX4_readOperand_34 mX4_137 (zc_k1 zc_s1) (zc_pos zc_s1 rfl) (by decide) (Nat.le_of_ble_eq_true rfl) (Nat.le_refl _) (fun r34 σ34 hr34 pσ34 => ?_)
      obtain ⟨hσ34, hfσ34, pσ34⟩ := pσ34
      have hFσ34 := zc_Fc hfσ34 rfl hFσ18
      have t17 := zc_g1_1 hσ18 zc_s1
      have t18 : σ18 1 1 = σ6 1 1 := hfσ18 _ _ (zc_out_at zc_s1 rfl)
      have t19 : σ6 1 1 = σ 1 1 := hfσ6 _ _ (zc_out_at zc_s1 rfl)
      have t20 := zc_g1_2 hσ18 zc_s1
      have Tσ18 : σ18 2 = σ 2 := funext (fun i => hFσ18 2 i (zc_out_ar zc_s2 rfl))
      have Nσ18 : σ18 1 1 = σ 1 1 := hFσ18 1 1 (zc_out_at zc_s1 rfl)
      rw [Tσ18, Nσ18] at pσ34
      have t21 := zc_g1_2 hσ34 zc_s1
      rw [show σ18 1 2 = (zt_sk (σ 2) (σ 1 1) (σ 1 2)) by omega, (zt_nu_i _ _ _ _).1, (zt_nu_i _ _ _ _).2] at pσ34
      refine zr_istore_n (pc := 37) hV [some (ZR 132), some (ZI r18), some (ZI r34)] dX4_readOperand_37 rfl (by decide) rfl rfl ?_
      refine zr_iload_n (pc := 38) hV dX4_readOperand_38 rfl rfl ?_
      refine zr_if_ge (pc := 39) hV 46 dX4_readOperand_39 (by decide) (by omega) (fun c22 => ?_) (fun c22 => ?_)
      · show V 46 [some (ZR 132), some (ZI r18), some (ZI r34)] [] 284 σ34
        refine zr_bipush (pc := 46) hV 16 dX4_readOperand_46 (by decide) ?_
        refine zr_iload_n (pc := 48) hV dX4_readOperand_48 rfl rfl ?_
        refine zr_iadd (pc := 49) hV dX4_readOperand_49 ?_
        show V 50 [some (ZR 132), some (ZI r18), some (ZI r34)] [ZI (16 + r34)] 284 σ34
        have t23 := zc_g1_2 hσ34 zc_s1
        exact zr_iret (pc := 50) hV dX4_readOperand_50 rfl rfl ⟨_, rfl, (by omega), hσ34, hFσ34, ⟨by omega, ⟨by unfold zc_op; omega, (by unfold zt_opR; repeat (first | rw [if_pos (by omega)] | rw [if_neg (by omega)]); all_goals omega), (by unfold zt_opA; repeat (first | rw [if_pos (by omega)] | rw [if_neg (by omega)]); all_goals omega)⟩⟩⟩
      · show V 42 [some (ZR 132), some (ZI r18), some (ZI r34)] [] 284 σ34
        refine zr_iconst (pc := 42) hV (-1) dX4_readOperand_42 rfl ?_
        refine zr_goto (pc := 43) hV 50 dX4_readOperand_43 (by decide) ?_
        show V 50 [some (ZR 132), some (ZI r18), some (ZI r34)] [ZI (-1)] 284 σ34
        have t24 := zc_g1_2 hσ34 zc_s1
        exact zr_iret (pc := 50) hV dX4_readOperand_50 rfl rfl ⟨_, rfl, ⟨by decide, by decide⟩, hσ34, hFσ34, ⟨by omega, ⟨by unfold zc_op; omega, (by unfold zt_opR; repeat (first | rw [if_pos (by omega)] | rw [if_neg (by omega)]); all_goals omega), (by unfold zt_opA; repeat (first | rw [if_pos (by omega)] | rw [if_neg (by omega)]); all_goals omega)⟩⟩⟩
  · show V 12 [some (ZR 132), none, none] [] 284 σ6
    have zy := zt_tk_y (t := σ 2) (n := σ 1 1) (c := 91) (a := σ 1 2) (by omega)
    refine zr_aload_n (pc := 12) hV dX4_readOperand_12 rfl rfl ?_
    have t25 : σ6 3 5 = σ 3 5 := hfσ6 _ _ (zc_out_at zc_s3 rfl)
    refine zr_callVi (pc := 13) hV [] (st := []) (c_X4_readMemory_2 (σ := σ6) hσ6 sp (by omega) ksp) dX4_readOperand_13 mX4_134 (zc_k132 zc_s132) (zc_pos zc_s132 rfl) (by decide) (Nat.le_of_ble_eq_true rfl) (Nat.le_refl _) (fun r13 σ13 hr13 pσ13 => ?_)
    obtain ⟨hσ13, hfσ13, pσ13⟩ := pσ13
    have hFσ13 := zc_Fc hfσ13 rfl hFσ6
    have t26 := zc_g1_1 hσ6 zc_s1
    have t27 : σ6 1 1 = σ 1 1 := hfσ6 _ _ (zc_out_at zc_s1 rfl)
    have t28 := zc_g1_2 hσ6 zc_s1
    have Tσ6 : σ6 2 = σ 2 := funext (fun i => hFσ6 2 i (zc_out_ar zc_s2 rfl))
    have Nσ6 : σ6 1 1 = σ 1 1 := hFσ6 1 1 (zc_out_at zc_s1 rfl)
    have Hσ6 : σ6 (sp + 1) = σ (sp + 1) := funext (fun i => hFσ6 (sp + 1) i (zc_out_ar (zc_p4_1 ksp) rfl))
    rw [Tσ6, Nσ6, Hσ6] at pσ13
    have t29 := zc_g1_2 hσ13 zc_s1
    rw [show σ6 1 2 = (zt_sk (σ 2) (σ 1 1) (σ 1 2)) + 1 by omega] at pσ13
    have t30 := zc_g1_2 hσ13 zc_s1
    exact zr_iret (pc := 16) hV dX4_readOperand_16 rfl rfl ⟨_, rfl, (by omega), hσ13, hFσ13, ⟨by omega, ⟨by unfold zc_op; omega, (by unfold zt_opR; repeat (first | rw [if_pos (by omega)] | rw [if_neg (by omega)]); all_goals omega), (by unfold zt_opA; repeat (first | rw [if_pos (by omega)] | rw [if_neg (by omega)]); all_goals omega)⟩⟩⟩
set_option maxHeartbeats 800000 in
theorem c_X8_isSign_2 {σ : zq_S} (c : Int) (q0 : zq_in c) : zq_C zc_w yX8_isSign cX8_isSign 1 (some .boolean) 0 0 284 284 [ZI c] σ (zq_pp σ (fun r => (0 ≤ r ∧ r ≤ 1) ∧ (r = 1 ↔ zt_sn c ≠ 0))) := by
  refine zq_C_of (by decide) (Nat.le_refl _) (Nat.le_of_ble_eq_true rfl) [some (ZI c)] rfl (fun V hV => ?_)
  show V 0 [some (ZI c)] [] 284 σ
  refine zr_iload_n (pc := 0) hV dX8_isSign_0 rfl rfl ?_
  refine zr_bipush (pc := 1) hV 43 dX8_isSign_1 (by decide) ?_
  refine zr_icmp_eq (pc := 3) hV 36 dX8_isSign_3 (by decide) (by omega) ⟨by decide, by decide⟩ (fun c1 => ?_) (fun c1 => ?_)
  · show V 36 [some (ZI c)] [] 284 σ
    refine zr_iconst (pc := 36) hV 1 dX8_isSign_36 rfl ?_
    refine zr_goto (pc := 37) hV 41 dX8_isSign_37 (by decide) ?_
    show V 41 [some (ZI c)] [ZI 1] 284 σ
    exact zr_zret (pc := 41) hV dX8_isSign_41 rfl rfl (by omega) ⟨rfl, _, rfl, ⟨by decide, by decide⟩, ⟨by omega, (by have := zt_sn_b c; omega)⟩⟩
  · show V 6 [some (ZI c)] [] 284 σ
    refine zr_iload_n (pc := 6) hV dX8_isSign_6 rfl rfl ?_
    refine zr_bipush (pc := 7) hV 45 dX8_isSign_7 (by decide) ?_
    refine zr_icmp_eq (pc := 9) hV 36 dX8_isSign_9 (by decide) (by omega) ⟨by decide, by decide⟩ (fun c2 => ?_) (fun c2 => ?_)
    · show V 36 [some (ZI c)] [] 284 σ
      refine zr_iconst (pc := 36) hV 1 dX8_isSign_36 rfl ?_
      refine zr_goto (pc := 37) hV 41 dX8_isSign_37 (by decide) ?_
      show V 41 [some (ZI c)] [ZI 1] 284 σ
      exact zr_zret (pc := 41) hV dX8_isSign_41 rfl rfl (by omega) ⟨rfl, _, rfl, ⟨by decide, by decide⟩, ⟨by omega, (by have := zt_sn_b c; omega)⟩⟩
    · show V 12 [some (ZI c)] [] 284 σ
      refine zr_iload_n (pc := 12) hV dX8_isSign_12 rfl rfl ?_
      refine zr_bipush (pc := 13) hV 38 dX8_isSign_13 (by decide) ?_
      refine zr_icmp_eq (pc := 15) hV 36 dX8_isSign_15 (by decide) (by omega) ⟨by decide, by decide⟩ (fun c3 => ?_) (fun c3 => ?_)
      · show V 36 [some (ZI c)] [] 284 σ
        refine zr_iconst (pc := 36) hV 1 dX8_isSign_36 rfl ?_
        refine zr_goto (pc := 37) hV 41 dX8_isSign_37 (by decide) ?_
        show V 41 [some (ZI c)] [ZI 1] 284 σ
        exact zr_zret (pc := 41) hV dX8_isSign_41 rfl rfl (by omega) ⟨rfl, _, rfl, ⟨by decide, by decide⟩, ⟨by omega, (by have := zt_sn_b c; omega)⟩⟩
      · show V 18 [some (ZI c)] [] 284 σ
        refine zr_iload_n (pc := 18) hV dX8_isSign_18 rfl rfl ?_
        refine zr_bipush (pc := 19) hV 124 dX8_isSign_19 (by decide) ?_
        refine zr_icmp_eq (pc := 21) hV 36 dX8_isSign_21 (by decide) (by omega) ⟨by decide, by decide⟩ (fun c4 => ?_) (fun c4 => ?_)
        · show V 36 [some (ZI c)] [] 284 σ
          refine zr_iconst (pc := 36) hV 1 dX8_isSign_36 rfl ?_
          refine zr_goto (pc := 37) hV 41 dX8_isSign_37 (by decide) ?_
          show V 41 [some (ZI c)] [ZI 1] 284 σ
          exact zr_zret (pc := 41) hV dX8_isSign_41 rfl rfl (by omega) ⟨rfl, _, rfl, ⟨by decide, by decide⟩, ⟨by omega, (by have := zt_sn_b c; omega)⟩⟩
        · show V 24 [some (ZI c)] [] 284 σ
          refine zr_iload_n (pc := 24) hV dX8_isSign_24 rfl rfl ?_
          refine zr_bipush (pc := 25) hV 94 dX8_isSign_25 (by decide) ?_
          refine zr_icmp_eq (pc := 27) hV 36 dX8_isSign_27 (by decide) (by omega) ⟨by decide, by decide⟩ (fun c5 => ?_) (fun c5 => ?_)
          · show V 36 [some (ZI c)] [] 284 σ
            refine zr_iconst (pc := 36) hV 1 dX8_isSign_36 rfl ?_
            refine zr_goto (pc := 37) hV 41 dX8_isSign_37 (by decide) ?_
            show V 41 [some (ZI c)] [ZI 1] 284 σ
            exact zr_zret (pc := 41) hV dX8_isSign_41 rfl rfl (by omega) ⟨rfl, _, rfl, ⟨by decide, by decide⟩, ⟨by omega, (by have := zt_sn_b c; omega)⟩⟩
          · show V 30 [some (ZI c)] [] 284 σ
            refine zr_iload_n (pc := 30) hV dX8_isSign_30 rfl rfl ?_
            refine zr_bipush (pc := 31) hV 60 dX8_isSign_31 (by decide) ?_
            refine zr_icmp_ne (pc := 33) hV 40 dX8_isSign_33 (by decide) (by omega) ⟨by decide, by decide⟩ (fun c6 => ?_) (fun c6 => ?_)
            · show V 40 [some (ZI c)] [] 284 σ
              refine zr_iconst (pc := 40) hV 0 dX8_isSign_40 rfl ?_
              show V 41 [some (ZI c)] [ZI 0] 284 σ
              exact zr_zret (pc := 41) hV dX8_isSign_41 rfl rfl (by omega) ⟨rfl, _, rfl, ⟨by decide, by decide⟩, ⟨by omega, (by have := zt_sn_b c; omega)⟩⟩
            · show V 36 [some (ZI c)] [] 284 σ
              refine zr_iconst (pc := 36) hV 1 dX8_isSign_36 rfl ?_
              refine zr_goto (pc := 37) hV 41 dX8_isSign_37 (by decide) ?_
              show V 41 [some (ZI c)] [ZI 1] 284 σ
              exact zr_zret (pc := 41) hV dX8_isSign_41 rfl rfl (by omega) ⟨rfl, _, rfl, ⟨by decide, by decide⟩, ⟨by omega, (by have := zt_sn_b c; omega)⟩⟩
set_option maxHeartbeats 800000 in
theorem c_X4_readAct_2 {σ : zq_S} (hσ : zc_T σ) (sp : Int) (esp : σ 3 5 = sp) (ksp : zc_kd sp = 4) (q0 : σ sp 6 ≤ 2) : zq_C zc_w yX4_readAct cX4_readAct 5 (some .boolean) 4 86 284 284 [ZR 132] σ (zq_pi (fun r τ => zc_T τ ∧ zc_Fr [(1, 2), (1, 3), (4, 6), (4, 12), (4, 13), (6, -1), (7, -1), (8, -1), (9, -1)] σ τ ∧ zd_Own sp σ τ ∧ ((0 ≤ r ∧ r ≤ 1) ∧ r = zt_acR (zt_H (σ (sp + 1))) (σ 2) (σ 1 1) (σ 1 2) ∧ τ 1 2 = zt_acA (zt_H (σ (sp + 1))) (σ 2) (σ 1 1) (σ 1 2)) ∧ zq_hid (r = 1 → zt_add σ τ sp (zt_tgR (zt_H (σ (sp + 1))) (σ 2) (σ 1 1) (σ 1 2)) (zt_acL (zt_H (σ (sp + 1))) (σ 2) (σ 1 1) (σ 1 2)) (zt_acS (zt_H (σ (sp + 1))) (σ 2) (σ 1 1) (σ 1 2)) (zt_acV (zt_H (σ (sp + 1))) (σ 2) (σ 1 1) (σ 1 2))))) := by
  refine zq_C_of (by decide) (Nat.le_refl _) (Nat.le_of_ble_eq_true rfl) [some (ZR 132), none, none, none, none] rfl (fun V hV => ?_)
  have hFσ := zc_Fr_rf [(1, 2), (1, 3), (4, 6), (4, 12), (4, 13), (6, -1), (7, -1), (8, -1), (9, -1)] σ
  have hOσ := zd_Own_rf sp σ
  have posp := zc_pos ksp rfl
  show V 0 [some (ZR 132), none, none, none, none] [] 284 σ
  refine zr_aload_n (pc := 0) hV dX4_readAct_0 rfl rfl ?_
  refine zr_callVi (pc := 1) hV [] (st := []) (c_X4_readTarget_2 (σ := σ) hσ sp (by omega) ksp) dX4_readAct_1 mX4_121 (zc_k132 zc_s132) (zc_pos zc_s132 rfl) (by decide) (Nat.le_of_ble_eq_true rfl) (Nat.le_refl _) (fun r1 σ1 hr1 pσ1 => ?_)
  obtain ⟨hσ1, hfσ1, pσ1⟩ := pσ1
  have hFσ1 := zc_Fc hfσ1 rfl hFσ
  have hOσ1 := zd_Oc hfσ1 rfl hOσ
  have t1 := zc_g1_1 hσ zc_s1
  have t2 := zc_g1_2 hσ zc_s1
  have t3 := zc_g1_2 hσ1 zc_s1
  refine zr_istore_n (pc := 4) hV [some (ZR 132), some (ZI r1), none, none, none] dX4_readAct_4 rfl (by decide) rfl rfl ?_
  refine zr_iload_n (pc := 5) hV dX4_readAct_5 rfl rfl ?_
  refine zr_iconst (pc := 6) hV (-1) dX4_readAct_6 rfl ?_
  refine zr_icmp_eq (pc := 7) hV 22 dX4_readAct_7 (by decide) (by omega) ⟨by decide, by decide⟩ (fun c4 => ?_) (fun c4 => ?_)
  · show V 22 [some (ZR 132), some (ZI r1), none, none, none] [] 284 σ1
    refine zr_iconst (pc := 22) hV 0 dX4_readAct_22 rfl ?_
    have t5 := zc_g1_2 hσ1 zc_s1
    exact zr_zret (pc := 23) hV dX4_readAct_23 rfl rfl (by omega) ⟨_, rfl, ⟨by decide, by decide⟩, hσ1, hFσ1, hOσ1, ⟨by omega, ⟨(by unfold zt_acR; repeat (first | rw [if_pos (by omega)] | rw [if_neg (by omega)]); all_goals omega), (by unfold zt_acA; repeat (first | rw [if_pos (by omega)] | rw [if_neg (by omega)]); all_goals omega)⟩⟩, (show (0 : Int) = 1 → zt_add σ σ1 sp (zt_tgR (zt_H (σ (sp + 1))) (σ 2) (σ 1 1) (σ 1 2)) (zt_acL (zt_H (σ (sp + 1))) (σ 2) (σ 1 1) (σ 1 2)) (zt_acS (zt_H (σ (sp + 1))) (σ 2) (σ 1 1) (σ 1 2)) (zt_acV (zt_H (σ (sp + 1))) (σ 2) (σ 1 1) (σ 1 2)) from (fun h => absurd h (by omega)))⟩
  · show V 10 [some (ZR 132), some (ZI r1), none, none, none] [] 284 σ1
    refine zr_aload_n (pc := 10) hV dX4_readAct_10 rfl rfl ?_
    refine zr_getR (pc := 11) hV 0 1 dX4_readAct_11 fX4_15 rfl rfl (zc_k132 zc_s132) (zc_pos zc_s132 rfl) (zc_g132_0 hσ1 zc_s132) (by decide) ?_
    refine zr_bipush (pc := 14) hV 61 dX4_readAct_14 (by decide) ?_
    refine zr_callVi (pc := 16) hV [ZI 61] (st := []) (c_X8_takes_2 (σ := σ1) hσ1 61 (by omega)) dX4_readAct_16 mX4_27 (zc_k1 zc_s1) (zc_pos zc_s1 rfl) (by decide) (Nat.le_of_ble_eq_true rfl) (Nat.le_refl _) (fun r16 σ16 hr16 pσ16 => ?_)
    obtain ⟨hσ16, hfσ16, pσ16⟩ := pσ16
    have hFσ16 := zc_Fc hfσ16 rfl hFσ1
    have hOσ16 := zd_Oc hfσ16 rfl hOσ1
    have t6 := zc_g1_1 hσ1 zc_s1
    have t7 : σ1 1 1 = σ 1 1 := hfσ1 _ _ (zc_out_at zc_s1 rfl)
    have t8 := zc_g1_2 hσ1 zc_s1
    have Tσ1 : σ1 2 = σ 2 := funext (fun i => hFσ1 2 i (zc_out_ar zc_s2 rfl))
    have Nσ1 : σ1 1 1 = σ 1 1 := hFσ1 1 1 (zc_out_at zc_s1 rfl)
    rw [Tσ1, Nσ1] at pσ16
    have t9 := zc_g1_2 hσ16 zc_s1
    rw [show σ1 1 2 = zt_tgA (zt_H (σ (sp + 1))) (σ 2) (σ 1 1) (σ 1 2) by omega] at pσ16
    refine zr_if_ne (pc := 19) hV 24 dX4_readAct_19 (by decide) (by omega) (fun c10 => ?_) (fun c10 => ?_)
    · show V 24 [some (ZR 132), some (ZI r1), none, none, none] [] 284 σ16
      have zy := zt_tk_y (t := σ 2) (n := σ 1 1) (c := 61) (a := zt_tgA (zt_H (σ (sp + 1))) (σ 2) (σ 1 1) (σ 1 2)) (by omega)
      have za2 : σ16 1 2 = zt_a2 (zt_H (σ (sp + 1))) (σ 2) (σ 1 1) (σ 1 2) := by unfold zt_a2; omega
      refine zr_aload_n (pc := 24) hV dX4_readAct_24 rfl rfl ?_
      have t11 : σ16 3 5 = σ1 3 5 := hfσ16 _ _ (zc_out_at zc_s3 rfl)
      have t12 : σ1 3 5 = σ 3 5 := hfσ1 _ _ (zc_out_at zc_s3 rfl)
      refine zr_callVi (pc := 25) hV [] (st := []) (c_X4_readOperand_2 (σ := σ16) hσ16 sp (by omega) ksp) dX4_readAct_25 mX4_124 (zc_k132 zc_s132) (zc_pos zc_s132 rfl) (by decide) (Nat.le_of_ble_eq_true rfl) (Nat.le_refl _) (fun r25 σ25 hr25 pσ25 => ?_)
      obtain ⟨hσ25, hfσ25, pσ25⟩ := pσ25
      have hFσ25 := zc_Fc hfσ25 rfl hFσ16
      have hOσ25 := zd_Oc hfσ25 rfl hOσ16
      have t13 := zc_g1_1 hσ16 zc_s1
      have t14 : σ16 1 1 = σ1 1 1 := hfσ16 _ _ (zc_out_at zc_s1 rfl)
      have t15 : σ1 1 1 = σ 1 1 := hfσ1 _ _ (zc_out_at zc_s1 rfl)
      have t16 := zc_g1_2 hσ16 zc_s1
      have Tσ16 : σ16 2 = σ 2 := funext (fun i => hFσ16 2 i (zc_out_ar zc_s2 rfl))
      have Nσ16 : σ16 1 1 = σ 1 1 := hFσ16 1 1 (zc_out_at zc_s1 rfl)
      have Hσ16 : σ16 (sp + 1) = σ (sp + 1) := funext (fun i => hFσ16 (sp + 1) i (zc_out_ar (zc_p4_1 ksp) rfl))
      rw [Tσ16, Nσ16, Hσ16] at pσ25
      have t17 := zc_g1_2 hσ25 zc_s1
      rw [za2] at pσ25
      have zL : r25 = zt_acL (zt_H (σ (sp + 1))) (σ 2) (σ 1 1) (σ 1 2) := by unfold zt_acL; omega
      have zA : σ25 1 2 = (zt_a3 (zt_H (σ (sp + 1))) (σ 2) (σ 1 1) (σ 1 2)) := by unfold zt_a3; omega
      refine zr_istore_n (pc := 28) hV [some (ZR 132), some (ZI r1), some (ZI r25), none, none] dX4_readAct_28 rfl (by decide) rfl rfl ?_
      refine zr_iload_n (pc := 29) hV dX4_readAct_29 rfl rfl ?_
      refine zr_iconst (pc := 30) hV (-1) dX4_readAct_30 rfl ?_
      refine zr_icmp_ne (pc := 31) hV 36 dX4_readAct_31 (by decide) (by omega) ⟨by decide, by decide⟩ (fun c18 => ?_) (fun c18 => ?_)
      · show V 36 [some (ZR 132), some (ZI r1), some (ZI r25), none, none] [] 284 σ25
        refine zr_aload_n (pc := 36) hV dX4_readAct_36 rfl rfl ?_
        refine zr_getR (pc := 37) hV 0 1 dX4_readAct_37 fX4_15 rfl rfl (zc_k132 zc_s132) (zc_pos zc_s132 rfl) (zc_g132_0 hσ25 zc_s132) (by decide) ?_
        refine zr_callVi (pc := 40) hV [] (st := []) (c_X8_next_2 (σ := σ25) hσ25) dX4_readAct_40 mX4_45 (zc_k1 zc_s1) (zc_pos zc_s1 rfl) (by decide) (Nat.le_of_ble_eq_true rfl) (Nat.le_refl _) (fun r40 σ40 hr40 pσ40 => ?_)
        obtain ⟨hσ40, hfσ40, pσ40⟩ := pσ40
        have hFσ40 := zc_Fc hfσ40 rfl hFσ25
        have hOσ40 := zd_Oc hfσ40 rfl hOσ25
        have t19 := zc_g1_1 hσ25 zc_s1
        have t20 : σ25 1 1 = σ16 1 1 := hfσ25 _ _ (zc_out_at zc_s1 rfl)
        have t21 : σ16 1 1 = σ1 1 1 := hfσ16 _ _ (zc_out_at zc_s1 rfl)
        have t22 : σ1 1 1 = σ 1 1 := hfσ1 _ _ (zc_out_at zc_s1 rfl)
        have t23 := zc_g1_2 hσ25 zc_s1
        have Tσ25 : σ25 2 = σ 2 := funext (fun i => hFσ25 2 i (zc_out_ar zc_s2 rfl))
        have Nσ25 : σ25 1 1 = σ 1 1 := hFσ25 1 1 (zc_out_at zc_s1 rfl)
        rw [Tσ25, Nσ25] at pσ40
        have t24 := zc_g1_2 hσ40 zc_s1
        rw [zA] at pσ40
        refine zr_istore_n (pc := 43) hV [some (ZR 132), some (ZI r1), some (ZI r25), some (ZI r40), none] dX4_readAct_43 rfl (by decide) rfl rfl ?_
        refine zr_iload_n (pc := 44) hV dX4_readAct_44 rfl rfl ?_
        refine zr_callSp (pc := 45) hV [ZI r40] (st := []) (c_X8_isSign_2 (σ := σ40) r40 (by omega)) dX4_readAct_45 mX4_127 (by decide) (Nat.le_of_ble_eq_true rfl) (Nat.le_refl _) (fun r45 hr45 pr45 => ?_)
        rw [pσ40.2.2] at pr45
        refine zr_if_ne (pc := 48) hV 67 dX4_readAct_48 (by decide) (by omega) (fun c25 => ?_) (fun c25 => ?_)
        · show V 67 [some (ZR 132), some (ZI r1), some (ZI r25), some (ZI r40), none] [] 284 σ40
          have zsb := zt_sn_b (zt_nx (σ 2) (σ 1 1) (zt_a3 (zt_H (σ (sp + 1))) (σ 2) (σ 1 1) (σ 1 2)))
          have zi := zt_nx_in (t := σ 2) (n := σ 1 1) (a := (zt_a3 (zt_H (σ (sp + 1))) (σ 2) (σ 1 1) (σ 1 2))) (by omega)
          refine zr_aload_n (pc := 67) hV dX4_readAct_67 rfl rfl ?_
          refine zr_getR (pc := 68) hV 0 1 dX4_readAct_68 fX4_15 rfl rfl (zc_k132 zc_s132) (zc_pos zc_s132 rfl) (zc_g132_0 hσ40 zc_s132) (by decide) ?_
          refine zr_callVv (pc := 71) hV [] (st := []) (c_X8_pass_2 (σ := σ40) hσ40) dX4_readAct_71 mX4_92 (zc_k1 zc_s1) (zc_pos zc_s1 rfl) (by decide) (Nat.le_of_ble_eq_true rfl) (Nat.le_refl _) (fun σ71 pσ71 => ?_)
          obtain ⟨hσ71, hfσ71, pσ71⟩ := pσ71
          have hFσ71 := zc_Fc hfσ71 rfl hFσ40
          have hOσ71 := zd_Oc hfσ71 rfl hOσ40
          have t26 := zc_g1_1 hσ40 zc_s1
          have t27 : σ40 1 1 = σ25 1 1 := hfσ40 _ _ (zc_out_at zc_s1 rfl)
          have t28 : σ25 1 1 = σ16 1 1 := hfσ25 _ _ (zc_out_at zc_s1 rfl)
          have t29 : σ16 1 1 = σ1 1 1 := hfσ16 _ _ (zc_out_at zc_s1 rfl)
          have t30 : σ1 1 1 = σ 1 1 := hfσ1 _ _ (zc_out_at zc_s1 rfl)
          have t31 := zc_g1_2 hσ40 zc_s1
          have t32 := zc_g1_2 hσ71 zc_s1
          refine zr_aload_n (pc := 74) hV dX4_readAct_74 rfl rfl ?_
          have t33 : σ71 3 5 = σ40 3 5 := hfσ71 _ _ (zc_out_at zc_s3 rfl)
          have t34 : σ40 3 5 = σ25 3 5 := hfσ40 _ _ (zc_out_at zc_s3 rfl)
          have t35 : σ25 3 5 = σ16 3 5 := hfσ25 _ _ (zc_out_at zc_s3 rfl)
          have t36 : σ16 3 5 = σ1 3 5 := hfσ16 _ _ (zc_out_at zc_s3 rfl)
          have t37 : σ1 3 5 = σ 3 5 := hfσ1 _ _ (zc_out_at zc_s3 rfl)
          refine zr_callVi (pc := 75) hV [] (st := []) (c_X4_readOperand_2 (σ := σ71) hσ71 sp (by omega) ksp) dX4_readAct_75 mX4_124 (zc_k132 zc_s132) (zc_pos zc_s132 rfl) (by decide) (Nat.le_of_ble_eq_true rfl) (Nat.le_refl _) (fun r75 σ75 hr75 pσ75 => ?_)
          obtain ⟨hσ75, hfσ75, pσ75⟩ := pσ75
          have hFσ75 := zc_Fc hfσ75 rfl hFσ71
          have hOσ75 := zd_Oc hfσ75 rfl hOσ71
          have t38 := zc_g1_1 hσ71 zc_s1
          have t39 : σ71 1 1 = σ40 1 1 := hfσ71 _ _ (zc_out_at zc_s1 rfl)
          have t40 : σ40 1 1 = σ25 1 1 := hfσ40 _ _ (zc_out_at zc_s1 rfl)
          have t41 : σ25 1 1 = σ16 1 1 := hfσ25 _ _ (zc_out_at zc_s1 rfl)
          have t42 : σ16 1 1 = σ1 1 1 := hfσ16 _ _ (zc_out_at zc_s1 rfl)
          have t43 : σ1 1 1 = σ 1 1 := hfσ1 _ _ (zc_out_at zc_s1 rfl)
          have t44 := zc_g1_2 hσ71 zc_s1
          have Tσ71 : σ71 2 = σ 2 := funext (fun i => hFσ71 2 i (zc_out_ar zc_s2 rfl))
          have Nσ71 : σ71 1 1 = σ 1 1 := hFσ71 1 1 (zc_out_at zc_s1 rfl)
          have Hσ71 : σ71 (sp + 1) = σ (sp + 1) := funext (fun i => hFσ71 (sp + 1) i (zc_out_ar (zc_p4_1 ksp) rfl))
          rw [Tσ71, Nσ71, Hσ71] at pσ75
          have t45 := zc_g1_2 hσ75 zc_s1
          rw [show σ71 1 2 = zt_sk (σ 2) (σ 1 1) (zt_a3 (zt_H (σ (sp + 1))) (σ 2) (σ 1 1) (σ 1 2)) + 1 by omega] at pσ75
          have zV : r75 = zt_acV (zt_H (σ (sp + 1))) (σ 2) (σ 1 1) (σ 1 2) := by unfold zt_acV; rw [if_neg (by omega)]; omega
          refine zr_istore (pc := 78) hV [some (ZR 132), some (ZI r1), some (ZI r25), some (ZI r40), some (ZI r75)] dX4_readAct_78 (by decide) rfl rfl ?_
          refine zr_iload (pc := 80) hV dX4_readAct_80 rfl ?_
          refine zr_iconst (pc := 82) hV (-1) dX4_readAct_82 rfl ?_
          refine zr_icmp_ne (pc := 83) hV 88 dX4_readAct_83 (by decide) (by omega) ⟨by decide, by decide⟩ (fun c46 => ?_) (fun c46 => ?_)
          · show V 88 [some (ZR 132), some (ZI r1), some (ZI r25), some (ZI r40), some (ZI r75)] [] 284 σ75
            refine zr_aload_n (pc := 88) hV dX4_readAct_88 rfl rfl ?_
            refine zr_getR (pc := 89) hV 1 3 dX4_readAct_89 fX4_19 rfl rfl (zc_k132 zc_s132) (zc_pos zc_s132 rfl) (zc_g132_1 hσ75 zc_s132) (by decide) ?_
            have t47 : σ75 3 5 = σ71 3 5 := hfσ75 _ _ (zc_out_at zc_s3 rfl)
            have t48 : σ71 3 5 = σ40 3 5 := hfσ71 _ _ (zc_out_at zc_s3 rfl)
            have t49 : σ40 3 5 = σ25 3 5 := hfσ40 _ _ (zc_out_at zc_s3 rfl)
            have t50 : σ25 3 5 = σ16 3 5 := hfσ25 _ _ (zc_out_at zc_s3 rfl)
            have t51 : σ16 3 5 = σ1 3 5 := hfσ16 _ _ (zc_out_at zc_s3 rfl)
            have t52 : σ1 3 5 = σ 3 5 := hfσ1 _ _ (zc_out_at zc_s3 rfl)
            refine zr_getR (pc := 92) hV 5 sp dX4_readAct_92 fX4_49 rfl rfl (zc_k3 zc_s3) (zc_pos zc_s3 rfl) (by omega) (zc_pos ksp rfl).1 ?_
            refine zr_iload_n (pc := 95) hV dX4_readAct_95 rfl rfl ?_
            refine zr_iload_n (pc := 96) hV dX4_readAct_96 rfl rfl ?_
            refine zr_iload_n (pc := 97) hV dX4_readAct_97 rfl rfl ?_
            refine zr_iload (pc := 98) hV dX4_readAct_98 rfl ?_
            have t53 := zc_g4_6 hσ75 ksp
            have t54 : σ75 sp 6 = σ71 sp 6 := hfσ75 _ _ (zc_out_at ksp rfl)
            have t55 : σ71 sp 6 = σ40 sp 6 := hfσ71 _ _ (zc_out_at ksp rfl)
            have t56 : σ40 sp 6 = σ25 sp 6 := hfσ40 _ _ (zc_out_at ksp rfl)
            have t57 : σ25 sp 6 = σ16 sp 6 := hfσ25 _ _ (zc_out_at ksp rfl)
            have t58 : σ16 sp 6 = σ1 sp 6 := hfσ16 _ _ (zc_out_at ksp rfl)
            have t59 : σ1 sp 6 = σ sp 6 := hfσ1 _ _ (zc_out_at ksp rfl)
            refine zr_callVv (pc := 100) hV [ZI r1, ZI r25, ZI r40, ZI r75] (st := []) (c_X3_addAct_2 (σ := σ75) hσ75 sp ksp r1 r25 r40 r75 (by omega) (by omega) (by omega) (by omega) pσ25.2.1 pσ75.2.1 (by omega)) dX4_readAct_100 mX4_130 (zc_k4 ksp) (zc_pos ksp rfl) (by decide) (Nat.le_of_ble_eq_true rfl) (Nat.le_refl _) (fun σ100 pσ100 => ?_)
            obtain ⟨hσ100, hfσ100, hoσ100, pσ100, wσ100⟩ := pσ100
            have hFσ100 := zc_Fc hfσ100 rfl hFσ75
            have hOσ100 := zd_Oo hoσ100 hOσ75
            have t60 := zc_g4_6 hσ75 ksp
            have t61 : σ75 sp 6 = σ71 sp 6 := hfσ75 _ _ (zc_out_at ksp rfl)
            have t62 : σ71 sp 6 = σ40 sp 6 := hfσ71 _ _ (zc_out_at ksp rfl)
            have t63 : σ40 sp 6 = σ25 sp 6 := hfσ40 _ _ (zc_out_at ksp rfl)
            have t64 : σ25 sp 6 = σ16 sp 6 := hfσ25 _ _ (zc_out_at ksp rfl)
            have t65 : σ16 sp 6 = σ1 sp 6 := hfσ16 _ _ (zc_out_at ksp rfl)
            have t66 : σ1 sp 6 = σ sp 6 := hfσ1 _ _ (zc_out_at ksp rfl)
            have t67 := zc_g4_6 hσ100 ksp
            refine zr_iconst (pc := 103) hV 1 dX4_readAct_103 rfl ?_
            have t68 := zc_g1_2 hσ100 zc_s1
            have t69 : σ100 1 2 = σ75 1 2 := hfσ100 _ _ (zc_out_at zc_s1 rfl)
            exact zr_zret (pc := 104) hV dX4_readAct_104 rfl rfl (by omega) ⟨_, rfl, ⟨by decide, by decide⟩, hσ100, hFσ100, hOσ100, ⟨by omega, ⟨(by unfold zt_acR; repeat (first | rw [if_pos (by omega)] | rw [if_neg (by omega)]); all_goals omega), (by unfold zt_acA; repeat (first | rw [if_pos (by omega)] | rw [if_neg (by omega)]); all_goals omega)⟩⟩, (show (1 : Int) = 1 → zt_add σ σ100 sp (zt_tgR (zt_H (σ (sp + 1))) (σ 2) (σ 1 1) (σ 1 2)) (zt_acL (zt_H (σ (sp + 1))) (σ 2) (σ 1 1) (σ 1 2)) (zt_acS (zt_H (σ (sp + 1))) (σ 2) (σ 1 1) (σ 1 2)) (zt_acV (zt_H (σ (sp + 1))) (σ 2) (σ 1 1) (σ 1 2)) from (fun _ => by rw [show zt_tgR (zt_H (σ (sp + 1))) (σ 2) (σ 1 1) (σ 1 2) = r1 by omega, show zt_acL (zt_H (σ (sp + 1))) (σ 2) (σ 1 1) (σ 1 2) = r25 by omega, show zt_acS (zt_H (σ (sp + 1))) (σ 2) (σ 1 1) (σ 1 2) = r40 by unfold zt_acS; rw [if_neg (by omega)]; omega, ← zV]; exact zt_add_c (by rw [hfσ75 sp _ (zc_out_at ksp rfl), hfσ71 sp _ (zc_out_at ksp rfl), hfσ40 sp _ (zc_out_at ksp rfl), hfσ25 sp _ (zc_out_at ksp rfl), hfσ16 sp _ (zc_out_at ksp rfl), hfσ1 sp _ (zc_out_at ksp rfl)]) (by rw [hfσ75 sp _ (zc_out_at ksp rfl), hfσ71 sp _ (zc_out_at ksp rfl), hfσ40 sp _ (zc_out_at ksp rfl), hfσ25 sp _ (zc_out_at ksp rfl), hfσ16 sp _ (zc_out_at ksp rfl), hfσ1 sp _ (zc_out_at ksp rfl)]) (by rw [hfσ75 sp _ (zc_out_at ksp rfl), hfσ71 sp _ (zc_out_at ksp rfl), hfσ40 sp _ (zc_out_at ksp rfl), hfσ25 sp _ (zc_out_at ksp rfl), hfσ16 sp _ (zc_out_at ksp rfl), hfσ1 sp _ (zc_out_at ksp rfl)]) (fun j => by rw [hfσ75 (sp + 2) _ (zc_out_ar (zc_p4_2 ksp) rfl), hfσ71 (sp + 2) _ (zc_out_ar (zc_p4_2 ksp) rfl), hfσ40 (sp + 2) _ (zc_out_ar (zc_p4_2 ksp) rfl), hfσ25 (sp + 2) _ (zc_out_ar (zc_p4_2 ksp) rfl), hfσ16 (sp + 2) _ (zc_out_ar (zc_p4_2 ksp) rfl), hfσ1 (sp + 2) _ (zc_out_ar (zc_p4_2 ksp) rfl)]) (fun j => by rw [hfσ75 (sp + 3) _ (zc_out_ar (zc_p4_3 ksp) rfl), hfσ71 (sp + 3) _ (zc_out_ar (zc_p4_3 ksp) rfl), hfσ40 (sp + 3) _ (zc_out_ar (zc_p4_3 ksp) rfl), hfσ25 (sp + 3) _ (zc_out_ar (zc_p4_3 ksp) rfl), hfσ16 (sp + 3) _ (zc_out_ar (zc_p4_3 ksp) rfl), hfσ1 (sp + 3) _ (zc_out_ar (zc_p4_3 ksp) rfl)]) (fun j => by rw [hfσ75 (sp + 4) _ (zc_out_ar (zc_p4_4 ksp) rfl), hfσ71 (sp + 4) _ (zc_out_ar (zc_p4_4 ksp) rfl), hfσ40 (sp + 4) _ (zc_out_ar (zc_p4_4 ksp) rfl), hfσ25 (sp + 4) _ (zc_out_ar (zc_p4_4 ksp) rfl), hfσ16 (sp + 4) _ (zc_out_ar (zc_p4_4 ksp) rfl), hfσ1 (sp + 4) _ (zc_out_ar (zc_p4_4 ksp) rfl)]) (fun j => by rw [hfσ75 (sp + 5) _ (zc_out_ar (zc_p4_5 ksp) rfl), hfσ71 (sp + 5) _ (zc_out_ar (zc_p4_5 ksp) rfl), hfσ40 (sp + 5) _ (zc_out_ar (zc_p4_5 ksp) rfl), hfσ25 (sp + 5) _ (zc_out_ar (zc_p4_5 ksp) rfl), hfσ16 (sp + 5) _ (zc_out_ar (zc_p4_5 ksp) rfl), hfσ1 (sp + 5) _ (zc_out_ar (zc_p4_5 ksp) rfl)]) wσ100))⟩
          · show V 86 [some (ZR 132), some (ZI r1), some (ZI r25), some (ZI r40), some (ZI r75)] [] 284 σ75
            refine zr_iconst (pc := 86) hV 0 dX4_readAct_86 rfl ?_
            have t70 := zc_g1_2 hσ75 zc_s1
            exact zr_zret (pc := 87) hV dX4_readAct_87 rfl rfl (by omega) ⟨_, rfl, ⟨by decide, by decide⟩, hσ75, hFσ75, hOσ75, ⟨by omega, ⟨(by unfold zt_acR; repeat (first | rw [if_pos (by omega)] | rw [if_neg (by omega)]); all_goals omega), (by unfold zt_acA; repeat (first | rw [if_pos (by omega)] | rw [if_neg (by omega)]); all_goals omega)⟩⟩, (show (0 : Int) = 1 → zt_add σ σ75 sp (zt_tgR (zt_H (σ (sp + 1))) (σ 2) (σ 1 1) (σ 1 2)) (zt_acL (zt_H (σ (sp + 1))) (σ 2) (σ 1 1) (σ 1 2)) (zt_acS (zt_H (σ (sp + 1))) (σ 2) (σ 1 1) (σ 1 2)) (zt_acV (zt_H (σ (sp + 1))) (σ 2) (σ 1 1) (σ 1 2)) from (fun h => absurd h (by omega)))⟩
        · show V 51 [some (ZR 132), some (ZI r1), some (ZI r25), some (ZI r40), none] [] 284 σ40
          refine zr_aload_n (pc := 51) hV dX4_readAct_51 rfl rfl ?_
          refine zr_getR (pc := 52) hV 1 3 dX4_readAct_52 fX4_19 rfl rfl (zc_k132 zc_s132) (zc_pos zc_s132 rfl) (zc_g132_1 hσ40 zc_s132) (by decide) ?_
          have t71 : σ40 3 5 = σ25 3 5 := hfσ40 _ _ (zc_out_at zc_s3 rfl)
          have t72 : σ25 3 5 = σ16 3 5 := hfσ25 _ _ (zc_out_at zc_s3 rfl)
          have t73 : σ16 3 5 = σ1 3 5 := hfσ16 _ _ (zc_out_at zc_s3 rfl)
          have t74 : σ1 3 5 = σ 3 5 := hfσ1 _ _ (zc_out_at zc_s3 rfl)
          refine zr_getR (pc := 55) hV 5 sp dX4_readAct_55 fX4_49 rfl rfl (zc_k3 zc_s3) (zc_pos zc_s3 rfl) (by omega) (zc_pos ksp rfl).1 ?_
          refine zr_iload_n (pc := 58) hV dX4_readAct_58 rfl rfl ?_
          refine zr_iload_n (pc := 59) hV dX4_readAct_59 rfl rfl ?_
          refine zr_iconst (pc := 60) hV 0 dX4_readAct_60 rfl ?_
          refine zr_iconst (pc := 61) hV 0 dX4_readAct_61 rfl ?_
          have t75 := zc_g4_6 hσ40 ksp
          have t76 : σ40 sp 6 = σ25 sp 6 := hfσ40 _ _ (zc_out_at ksp rfl)
          have t77 : σ25 sp 6 = σ16 sp 6 := hfσ25 _ _ (zc_out_at ksp rfl)
          have t78 : σ16 sp 6 = σ1 sp 6 := hfσ16 _ _ (zc_out_at ksp rfl)
          have t79 : σ1 sp 6 = σ sp 6 := hfσ1 _ _ (zc_out_at ksp rfl)
          refine zr_callVv (pc := 62) hV [ZI r1, ZI r25, ZI 0, ZI 0] (st := []) (c_X3_addAct_2 (σ := σ40) hσ40 sp ksp r1 r25 0 0 (by omega) (by omega) (by omega) (by omega) pσ25.2.1 (Or.inl (by decide)) (by omega)) dX4_readAct_62 mX4_130 (zc_k4 ksp) (zc_pos ksp rfl) (by decide) (Nat.le_of_ble_eq_true rfl) (Nat.le_refl _) (fun σ62 pσ62 => ?_)
          obtain ⟨hσ62, hfσ62, hoσ62, pσ62, wσ62⟩ := pσ62
          have hFσ62 := zc_Fc hfσ62 rfl hFσ40
          have hOσ62 := zd_Oo hoσ62 hOσ40
          have t80 := zc_g4_6 hσ40 ksp
          have t81 : σ40 sp 6 = σ25 sp 6 := hfσ40 _ _ (zc_out_at ksp rfl)
          have t82 : σ25 sp 6 = σ16 sp 6 := hfσ25 _ _ (zc_out_at ksp rfl)
          have t83 : σ16 sp 6 = σ1 sp 6 := hfσ16 _ _ (zc_out_at ksp rfl)
          have t84 : σ1 sp 6 = σ sp 6 := hfσ1 _ _ (zc_out_at ksp rfl)
          have t85 := zc_g4_6 hσ62 ksp
          refine zr_iconst (pc := 65) hV 1 dX4_readAct_65 rfl ?_
          have t86 := zc_g1_2 hσ62 zc_s1
          have t87 : σ62 1 2 = σ40 1 2 := hfσ62 _ _ (zc_out_at zc_s1 rfl)
          exact zr_zret (pc := 66) hV dX4_readAct_66 rfl rfl (by omega) ⟨_, rfl, ⟨by decide, by decide⟩, hσ62, hFσ62, hOσ62, ⟨by omega, ⟨(by unfold zt_acR; repeat (first | rw [if_pos (by omega)] | rw [if_neg (by omega)]); all_goals omega), (by unfold zt_acA; repeat (first | rw [if_pos (by omega)] | rw [if_neg (by omega)]); all_goals omega)⟩⟩, (show (1 : Int) = 1 → zt_add σ σ62 sp (zt_tgR (zt_H (σ (sp + 1))) (σ 2) (σ 1 1) (σ 1 2)) (zt_acL (zt_H (σ (sp + 1))) (σ 2) (σ 1 1) (σ 1 2)) (zt_acS (zt_H (σ (sp + 1))) (σ 2) (σ 1 1) (σ 1 2)) (zt_acV (zt_H (σ (sp + 1))) (σ 2) (σ 1 1) (σ 1 2)) from (fun _ => by rw [show zt_tgR (zt_H (σ (sp + 1))) (σ 2) (σ 1 1) (σ 1 2) = r1 by omega, show zt_acL (zt_H (σ (sp + 1))) (σ 2) (σ 1 1) (σ 1 2) = r25 by omega, show zt_acS (zt_H (σ (sp + 1))) (σ 2) (σ 1 1) (σ 1 2) = 0 by unfold zt_acS; rw [if_pos (by omega)], show zt_acV (zt_H (σ (sp + 1))) (σ 2) (σ 1 1) (σ 1 2) = 0 by unfold zt_acV; rw [if_pos (by omega)]]; exact zt_add_c (by rw [hfσ40 sp _ (zc_out_at ksp rfl), hfσ25 sp _ (zc_out_at ksp rfl), hfσ16 sp _ (zc_out_at ksp rfl), hfσ1 sp _ (zc_out_at ksp rfl)]) (by rw [hfσ40 sp _ (zc_out_at ksp rfl), hfσ25 sp _ (zc_out_at ksp rfl), hfσ16 sp _ (zc_out_at ksp rfl), hfσ1 sp _ (zc_out_at ksp rfl)]) (by rw [hfσ40 sp _ (zc_out_at ksp rfl), hfσ25 sp _ (zc_out_at ksp rfl), hfσ16 sp _ (zc_out_at ksp rfl), hfσ1 sp _ (zc_out_at ksp rfl)]) (fun j => by rw [hfσ40 (sp + 2) _ (zc_out_ar (zc_p4_2 ksp) rfl), hfσ25 (sp + 2) _ (zc_out_ar (zc_p4_2 ksp) rfl), hfσ16 (sp + 2) _ (zc_out_ar (zc_p4_2 ksp) rfl), hfσ1 (sp + 2) _ (zc_out_ar (zc_p4_2 ksp) rfl)]) (fun j => by rw [hfσ40 (sp + 3) _ (zc_out_ar (zc_p4_3 ksp) rfl), hfσ25 (sp + 3) _ (zc_out_ar (zc_p4_3 ksp) rfl), hfσ16 (sp + 3) _ (zc_out_ar (zc_p4_3 ksp) rfl), hfσ1 (sp + 3) _ (zc_out_ar (zc_p4_3 ksp) rfl)]) (fun j => by rw [hfσ40 (sp + 4) _ (zc_out_ar (zc_p4_4 ksp) rfl), hfσ25 (sp + 4) _ (zc_out_ar (zc_p4_4 ksp) rfl), hfσ16 (sp + 4) _ (zc_out_ar (zc_p4_4 ksp) rfl), hfσ1 (sp + 4) _ (zc_out_ar (zc_p4_4 ksp) rfl)]) (fun j => by rw [hfσ40 (sp + 5) _ (zc_out_ar (zc_p4_5 ksp) rfl), hfσ25 (sp + 5) _ (zc_out_ar (zc_p4_5 ksp) rfl), hfσ16 (sp + 5) _ (zc_out_ar (zc_p4_5 ksp) rfl), hfσ1 (sp + 5) _ (zc_out_ar (zc_p4_5 ksp) rfl)]) wσ62))⟩
      · show V 34 [some (ZR 132), some (ZI r1), some (ZI r25), none, none] [] 284 σ25
        refine zr_iconst (pc := 34) hV 0 dX4_readAct_34 rfl ?_
        have t88 := zc_g1_2 hσ25 zc_s1
        exact zr_zret (pc := 35) hV dX4_readAct_35 rfl rfl (by omega) ⟨_, rfl, ⟨by decide, by decide⟩, hσ25, hFσ25, hOσ25, ⟨by omega, ⟨(by unfold zt_acR; repeat (first | rw [if_pos (by omega)] | rw [if_neg (by omega)]); all_goals omega), (by unfold zt_acA; repeat (first | rw [if_pos (by omega)] | rw [if_neg (by omega)]); all_goals omega)⟩⟩, (show (0 : Int) = 1 → zt_add σ σ25 sp (zt_tgR (zt_H (σ (sp + 1))) (σ 2) (σ 1 1) (σ 1 2)) (zt_acL (zt_H (σ (sp + 1))) (σ 2) (σ 1 1) (σ 1 2)) (zt_acS (zt_H (σ (sp + 1))) (σ 2) (σ 1 1) (σ 1 2)) (zt_acV (zt_H (σ (sp + 1))) (σ 2) (σ 1 1) (σ 1 2)) from (fun h => absurd h (by omega)))⟩
    · show V 22 [some (ZR 132), some (ZI r1), none, none, none] [] 284 σ16
      refine zr_iconst (pc := 22) hV 0 dX4_readAct_22 rfl ?_
      have t89 := zc_g1_2 hσ16 zc_s1
      exact zr_zret (pc := 23) hV dX4_readAct_23 rfl rfl (by omega) ⟨_, rfl, ⟨by decide, by decide⟩, hσ16, hFσ16, hOσ16, ⟨by omega, ⟨(by unfold zt_acR; repeat (first | rw [if_pos (by omega)] | rw [if_neg (by omega)]); all_goals omega), (by unfold zt_acA; repeat (first | rw [if_pos (by omega)] | rw [if_neg (by omega)]); all_goals omega)⟩⟩, (show (0 : Int) = 1 → zt_add σ σ16 sp (zt_tgR (zt_H (σ (sp + 1))) (σ 2) (σ 1 1) (σ 1 2)) (zt_acL (zt_H (σ (sp + 1))) (σ 2) (σ 1 1) (σ 1 2)) (zt_acS (zt_H (σ (sp + 1))) (σ 2) (σ 1 1) (σ 1 2)) (zt_acV (zt_H (σ (sp + 1))) (σ 2) (σ 1 1) (σ 1 2)) from (fun h => absurd h (by omega)))⟩
set_option maxHeartbeats 800000 in
theorem c_X4_readActs_2 {σ : zq_S} (hσ : zc_T σ) (sp : Int) (esp : σ 3 5 = sp) (ksp : zc_kd sp = 4) (q0 : σ sp 6 = 0) : zq_C zc_w yX4_readActs cX4_readActs 2 (some .boolean) 5 110 284 284 [ZR 132] σ (zq_pi (fun r τ => zc_T τ ∧ zc_Fr [(1, 2), (1, 3), (4, 6), (4, 12), (4, 13), (6, -1), (7, -1), (8, -1), (9, -1)] σ τ ∧ zd_Own sp σ τ ∧ ((0 ≤ r ∧ r ≤ 1) ∧ r = zt_sR (zt_H (σ (sp + 1))) (σ 2) (σ 1 1) (σ 1 2) ∧ τ 1 2 = zt_sA (zt_H (σ (sp + 1))) (σ 2) (σ 1 1) (σ 1 2)) ∧ zq_hid (r = 1 → τ sp 6 = (zt_sN (zt_H (σ (sp + 1))) (σ 2) (σ 1 1) (σ 1 2)) ∧ zt_acts τ sp (zt_H (σ (sp + 1))) (σ 2) (σ 1 1) (σ 1 2) (zt_sN (zt_H (σ (sp + 1))) (σ 2) (σ 1 1) (σ 1 2)) ∧ τ sp 12 = zt_nmK (fun i => zt_tgR (zt_H (σ (sp + 1))) (σ 2) (σ 1 1) (zt_as (zt_H (σ (sp + 1))) (σ 2) (σ 1 1) (σ 1 2) i)) (fun i => zt_acL (zt_H (σ (sp + 1))) (σ 2) (σ 1 1) (zt_as (zt_H (σ (sp + 1))) (σ 2) (σ 1 1) (σ 1 2) i)) (fun i => zt_acS (zt_H (σ (sp + 1))) (σ 2) (σ 1 1) (zt_as (zt_H (σ (sp + 1))) (σ 2) (σ 1 1) (σ 1 2) i)) (fun i => zt_acV (zt_H (σ (sp + 1))) (σ 2) (σ 1 1) (zt_as (zt_H (σ (sp + 1))) (σ 2) (σ 1 1) (σ 1 2) i)) (σ sp 12) (zt_sN (zt_H (σ (sp + 1))) (σ 2) (σ 1 1) (σ 1 2)) ∧ τ sp 13 = zt_amK (fun i => zt_tgR (zt_H (σ (sp + 1))) (σ 2) (σ 1 1) (zt_as (zt_H (σ (sp + 1))) (σ 2) (σ 1 1) (σ 1 2) i)) (σ sp 13) (zt_sN (zt_H (σ (sp + 1))) (σ 2) (σ 1 1) (σ 1 2))))) := by
  refine zq_C_of (by decide) (Nat.le_refl _) (Nat.le_of_ble_eq_true rfl) [some (ZR 132), none] rfl (fun V hV => ?_)
  have hFσ := zc_Fr_rf [(1, 2), (1, 3), (4, 6), (4, 12), (4, 13), (6, -1), (7, -1), (8, -1), (9, -1)] σ
  have hOσ := zd_Own_rf sp σ
  have posp := zc_pos ksp rfl
  show V 0 [some (ZR 132), none] [] 284 σ
  refine zr_iconst (pc := 0) hV 0 dX4_readActs_0 rfl ?_
  refine zr_istore_n (pc := 1) hV [some (ZR 132), some (ZI 0)] dX4_readActs_1 rfl (by decide) rfl rfl ?_
  have L2 : ∀ (fuel : Nat) (x1_2 : Int) (σ_2 : zq_S), (0 ≤ x1_2 ∧ x1_2 ≤ 3) → (zc_T σ_2) → (zc_Fr [(1, 2), (1, 3), (4, 6), (4, 12), (4, 13), (6, -1), (7, -1), (8, -1), (9, -1)] σ σ_2) → (zd_Own sp σ σ_2) → (σ_2 sp 6 = x1_2) → (zq_hid (∀ i, 0 ≤ i → i < x1_2 → zt_acR (zt_H (σ (sp + 1))) (σ 2) (σ 1 1) (zt_as (zt_H (σ (sp + 1))) (σ 2) (σ 1 1) (σ 1 2) i) ≠ 0)) → (zq_hid (∀ i, 0 ≤ i → i + 1 < x1_2 → zt_nx (σ 2) (σ 1 1) (zt_acA (zt_H (σ (sp + 1))) (σ 2) (σ 1 1) (zt_as (zt_H (σ (sp + 1))) (σ 2) (σ 1 1) (σ 1 2) i)) = 44)) → ((x1_2 = 0 → σ_2 1 2 = σ 1 2) ∧ (x1_2 ≠ 0 → σ_2 1 2 = zt_acA (zt_H (σ (sp + 1))) (σ 2) (σ 1 1) (zt_as (zt_H (σ (sp + 1))) (σ 2) (σ 1 1) (σ 1 2) (x1_2 - 1)))) → (zt_acts σ_2 sp (zt_H (σ (sp + 1))) (σ 2) (σ 1 1) (σ 1 2) x1_2) → (σ_2 sp 12 = zt_nmK (fun i => zt_tgR (zt_H (σ (sp + 1))) (σ 2) (σ 1 1) (zt_as (zt_H (σ (sp + 1))) (σ 2) (σ 1 1) (σ 1 2) i)) (fun i => zt_acL (zt_H (σ (sp + 1))) (σ 2) (σ 1 1) (zt_as (zt_H (σ (sp + 1))) (σ 2) (σ 1 1) (σ 1 2) i)) (fun i => zt_acS (zt_H (σ (sp + 1))) (σ 2) (σ 1 1) (zt_as (zt_H (σ (sp + 1))) (σ 2) (σ 1 1) (σ 1 2) i)) (fun i => zt_acV (zt_H (σ (sp + 1))) (σ 2) (σ 1 1) (zt_as (zt_H (σ (sp + 1))) (σ 2) (σ 1 1) (σ 1 2) i)) (σ sp 12) x1_2) → (σ_2 sp 13 = zt_amK (fun i => zt_tgR (zt_H (σ (sp + 1))) (σ 2) (σ 1 1) (zt_as (zt_H (σ (sp + 1))) (σ 2) (σ 1 1) (σ 1 2) i)) (σ sp 13) x1_2) → 3 - x1_2 < (fuel : Int) → V 2 [some (ZR 132), some (ZI x1_2)] [] 284 σ_2 := by
    intro fuel
    induction fuel with
    | zero =>
      intro x1_2 σ_2 hx1_2 hσ_2 hFσ_2 hOσ_2 hi2_0 hi2_1 hi2_2 hi2_3 hi2_4 hi2_5 hi2_6 hm2
      exfalso; omega
    | succ fuel ih =>
      intro x1_2 σ_2 hx1_2 hσ_2 hFσ_2 hOσ_2 hi2_0 hi2_1 hi2_2 hi2_3 hi2_4 hi2_5 hi2_6 hm2
      have ih2 := ih
      show V 2 [some (ZR 132), some (ZI x1_2)] [] 284 σ_2
      refine zr_iload_n (pc := 2) hV dX4_readActs_2 rfl rfl ?_
      refine zr_iconst (pc := 3) hV 3 dX4_readActs_3 rfl ?_
      refine zr_icmp_ge (pc := 4) hV 40 dX4_readActs_4 (by decide) (by omega) ⟨by decide, by decide⟩ (fun c1 => ?_) (fun c1 => ?_)
      · show V 40 [some (ZR 132), some (ZI x1_2)] [] 284 σ_2
        have zst := zt_s_full (fun i h0 h1 => hi2_1 i h0 (by omega)) (fun i h0 h1 => hi2_2 i h0 (by omega))
        have z3 := hi2_3.2 (by omega)
        have z3b : (zt_as (zt_H (σ (sp + 1))) (σ 2) (σ 1 1) (σ 1 2) (x1_2 - 1)) = (zt_as (zt_H (σ (sp + 1))) (σ 2) (σ 1 1) (σ 1 2) (2)) := by rw [show x1_2 - 1 = 2 by omega]
        rw [z3b] at z3
        refine zr_iconst (pc := 40) hV 1 dX4_readActs_40 rfl ?_
        have t2 := zc_g4_12 hσ_2 ksp
        have t3 := zc_g4_13 hσ_2 ksp
        have t4 := zc_g4_6 hσ_2 ksp
        have t5 := zc_g1_2 hσ_2 zc_s1
        exact zr_zret (pc := 41) hV dX4_readActs_41 rfl rfl (by omega) ⟨_, rfl, ⟨by decide, by decide⟩, hσ_2, hFσ_2, hOσ_2, ⟨by omega, ⟨by omega, by omega⟩⟩, (show (1 : Int) = 1 → σ_2 sp 6 = (zt_sN (zt_H (σ (sp + 1))) (σ 2) (σ 1 1) (σ 1 2)) ∧ zt_acts σ_2 sp (zt_H (σ (sp + 1))) (σ 2) (σ 1 1) (σ 1 2) (zt_sN (zt_H (σ (sp + 1))) (σ 2) (σ 1 1) (σ 1 2)) ∧ σ_2 sp 12 = zt_nmK (fun i => zt_tgR (zt_H (σ (sp + 1))) (σ 2) (σ 1 1) (zt_as (zt_H (σ (sp + 1))) (σ 2) (σ 1 1) (σ 1 2) i)) (fun i => zt_acL (zt_H (σ (sp + 1))) (σ 2) (σ 1 1) (zt_as (zt_H (σ (sp + 1))) (σ 2) (σ 1 1) (σ 1 2) i)) (fun i => zt_acS (zt_H (σ (sp + 1))) (σ 2) (σ 1 1) (zt_as (zt_H (σ (sp + 1))) (σ 2) (σ 1 1) (σ 1 2) i)) (fun i => zt_acV (zt_H (σ (sp + 1))) (σ 2) (σ 1 1) (zt_as (zt_H (σ (sp + 1))) (σ 2) (σ 1 1) (σ 1 2) i)) (σ sp 12) (zt_sN (zt_H (σ (sp + 1))) (σ 2) (σ 1 1) (σ 1 2)) ∧ σ_2 sp 13 = zt_amK (fun i => zt_tgR (zt_H (σ (sp + 1))) (σ 2) (σ 1 1) (zt_as (zt_H (σ (sp + 1))) (σ 2) (σ 1 1) (σ 1 2) i)) (σ sp 13) (zt_sN (zt_H (σ (sp + 1))) (σ 2) (σ 1 1) (σ 1 2)) from (fun _ => ⟨by omega, fun i h0 h1 => hi2_4 i h0 (by omega), by rw [zst.2.2, show (3 : Int) = x1_2 by omega]; exact hi2_5, by rw [zst.2.2, show (3 : Int) = x1_2 by omega]; exact hi2_6⟩))⟩
      · show V 7 [some (ZR 132), some (ZI x1_2)] [] 284 σ_2
        refine zr_iload_n (pc := 7) hV dX4_readActs_7 rfl rfl ?_
        refine zr_if_le (pc := 8) hV 25 dX4_readActs_8 (by decide) (by omega) (fun c6 => ?_) (fun c6 => ?_)
        · show V 25 [some (ZR 132), some (ZI x1_2)] [] 284 σ_2
          refine zr_aload_n (pc := 25) hV dX4_readActs_25 rfl rfl ?_
          have t7 := zc_g4_6 hσ_2 ksp
          have t8 : σ_2 3 5 = σ 3 5 := hFσ_2 _ _ (zc_out_at zc_s3 rfl)
          refine zr_callVi (pc := 26) hV [] (st := []) (c_X4_readAct_2 (σ := σ_2) hσ_2 sp (by omega) ksp (by omega)) dX4_readActs_26 mX4_118 (zc_k132 zc_s132) (zc_pos zc_s132 rfl) (by decide) (Nat.le_of_ble_eq_true rfl) (Nat.le_refl _) (fun r26 σ26 hr26 pσ26 => ?_)
          obtain ⟨hσ26, hfσ26, hoσ26, pσ26, wσ26⟩ := pσ26
          have hFσ26 := zc_Fc hfσ26 rfl hFσ_2
          have hOσ26 := zd_Oo hoσ26 hOσ_2
          have t9 := zc_g1_1 hσ_2 zc_s1
          have t10 : σ_2 1 1 = σ 1 1 := hFσ_2 _ _ (zc_out_at zc_s1 rfl)
          have t11 := zc_g1_2 hσ_2 zc_s1
          have Tσ_2 : σ_2 2 = σ 2 := funext (fun i => hFσ_2 2 i (zc_out_ar zc_s2 rfl))
          have Nσ_2 : σ_2 1 1 = σ 1 1 := hFσ_2 1 1 (zc_out_at zc_s1 rfl)
          have Hσ_2 : σ_2 (sp + 1) = σ (sp + 1) := funext (fun i => hFσ_2 (sp + 1) i (zc_out_ar (zc_p4_1 ksp) rfl))
          rw [Tσ_2, Nσ_2, Hσ_2] at pσ26
          rw [Tσ_2, Nσ_2, Hσ_2] at wσ26
          have t12 := zc_g1_2 hσ26 zc_s1
          have zs : σ_2 1 2 = (zt_as (zt_H (σ (sp + 1))) (σ 2) (σ 1 1) (σ 1 2) (x1_2)) := by rw [show x1_2 = 0 by omega, zt_as_0]; omega
          have zc44 : 1 ≤ x1_2 → zt_nx (σ 2) (σ 1 1) (zt_acA (zt_H (σ (sp + 1))) (σ 2) (σ 1 1) (zt_as (zt_H (σ (sp + 1))) (σ 2) (σ 1 1) (σ 1 2) (x1_2 - 1))) = 44 := fun h => absurd h (by omega)
          have ac26 := hi2_4
          rw [zs] at pσ26 wσ26
          refine zr_if_ne (pc := 29) hV 34 dX4_readActs_29 (by decide) (by omega) (fun c13 => ?_) (fun c13 => ?_)
          · show V 34 [some (ZR 132), some (ZI x1_2)] [] 284 σ26
            have w26 := wσ26 (by omega)
            refine zr_iinc (pc := 34) hV [some (ZR 132), some (ZI (x1_2 + 1))] (x1_2 + 1) dX4_readActs_34 rfl rfl (by decide) rfl rfl ?_
            refine zr_goto (pc := 37) hV 2 dX4_readActs_37 (by decide) ?_
            have t14 := zc_g4_6 hσ26 ksp
            have t15 := zc_g1_2 hσ26 zc_s1
            have t16 := zc_g4_12 hσ26 ksp
            have t17 := zc_g4_13 hσ26 ksp
            exact ih2 (x1_2 + 1) σ26 (by omega) hσ26 hFσ26 hOσ26 (by have := w26.1; omega) (fun i h0 h1 => if hc : i = x1_2 then (by rw [hc]; omega) else hi2_1 i h0 (by omega)) (fun i h0 h1 => if hc : i + 1 = x1_2 then (by rw [show i = x1_2 - 1 by omega]; exact zc44 (by omega)) else hi2_2 i h0 (by omega)) ⟨fun h => absurd h (by omega), fun _ => by rw [show x1_2 + 1 - 1 = x1_2 by omega]; omega⟩ (zt_acts_add (by omega) (by omega) ac26 w26) (by rw [zt_nmK_s _ _ _ _ _ (by omega), ← hi2_5, w26.2.1]) (by rw [zt_amK_s _ _ (by omega), ← hi2_6, w26.2.2.1]) (by omega)
          · show V 32 [some (ZR 132), some (ZI x1_2)] [] 284 σ26
            have zfl := zt_s_fail (H := (zt_H (σ (sp + 1)))) (t := σ 2) (n := σ 1 1) (a := σ 1 2) (j := x1_2) (by omega) hi2_1 (fun i h0 h1 => if hc : i + 1 < x1_2 then hi2_2 i h0 hc else (by rw [show i = x1_2 - 1 by omega]; exact zc44 (by omega))) (by omega)
            refine zr_iconst (pc := 32) hV 0 dX4_readActs_32 rfl ?_
            have t18 := zc_g4_12 hσ26 ksp
            have t19 := zc_g4_13 hσ26 ksp
            have t20 := zc_g4_6 hσ26 ksp
            have t21 := zc_g1_2 hσ26 zc_s1
            exact zr_zret (pc := 33) hV dX4_readActs_33 rfl rfl (by omega) ⟨_, rfl, ⟨by decide, by decide⟩, hσ26, hFσ26, hOσ26, ⟨by omega, ⟨by omega, by omega⟩⟩, (show (0 : Int) = 1 → σ26 sp 6 = (zt_sN (zt_H (σ (sp + 1))) (σ 2) (σ 1 1) (σ 1 2)) ∧ zt_acts σ26 sp (zt_H (σ (sp + 1))) (σ 2) (σ 1 1) (σ 1 2) (zt_sN (zt_H (σ (sp + 1))) (σ 2) (σ 1 1) (σ 1 2)) ∧ σ26 sp 12 = zt_nmK (fun i => zt_tgR (zt_H (σ (sp + 1))) (σ 2) (σ 1 1) (zt_as (zt_H (σ (sp + 1))) (σ 2) (σ 1 1) (σ 1 2) i)) (fun i => zt_acL (zt_H (σ (sp + 1))) (σ 2) (σ 1 1) (zt_as (zt_H (σ (sp + 1))) (σ 2) (σ 1 1) (σ 1 2) i)) (fun i => zt_acS (zt_H (σ (sp + 1))) (σ 2) (σ 1 1) (zt_as (zt_H (σ (sp + 1))) (σ 2) (σ 1 1) (σ 1 2) i)) (fun i => zt_acV (zt_H (σ (sp + 1))) (σ 2) (σ 1 1) (zt_as (zt_H (σ (sp + 1))) (σ 2) (σ 1 1) (σ 1 2) i)) (σ sp 12) (zt_sN (zt_H (σ (sp + 1))) (σ 2) (σ 1 1) (σ 1 2)) ∧ σ26 sp 13 = zt_amK (fun i => zt_tgR (zt_H (σ (sp + 1))) (σ 2) (σ 1 1) (zt_as (zt_H (σ (sp + 1))) (σ 2) (σ 1 1) (σ 1 2) i)) (σ sp 13) (zt_sN (zt_H (σ (sp + 1))) (σ 2) (σ 1 1) (σ 1 2)) from (fun h => absurd h (by omega)))⟩
        · show V 11 [some (ZR 132), some (ZI x1_2)] [] 284 σ_2
          refine zr_aload_n (pc := 11) hV dX4_readActs_11 rfl rfl ?_
          refine zr_getR (pc := 12) hV 0 1 dX4_readActs_12 fX4_15 rfl rfl (zc_k132 zc_s132) (zc_pos zc_s132 rfl) (zc_g132_0 hσ_2 zc_s132) (by decide) ?_
          refine zr_bipush (pc := 15) hV 44 dX4_readActs_15 (by decide) ?_
          refine zr_callVi (pc := 17) hV [ZI 44] (st := []) (c_X8_takes_2 (σ := σ_2) hσ_2 44 (by omega)) dX4_readActs_17 mX4_27 (zc_k1 zc_s1) (zc_pos zc_s1 rfl) (by decide) (Nat.le_of_ble_eq_true rfl) (Nat.le_refl _) (fun r17 σ17 hr17 pσ17 => ?_)
          obtain ⟨hσ17, hfσ17, pσ17⟩ := pσ17
          have hFσ17 := zc_Fc hfσ17 rfl hFσ_2
          have hOσ17 := zd_Oc hfσ17 rfl hOσ_2
          have t22 := zc_g1_1 hσ_2 zc_s1
          have t23 : σ_2 1 1 = σ 1 1 := hFσ_2 _ _ (zc_out_at zc_s1 rfl)
          have t24 := zc_g1_2 hσ_2 zc_s1
          have Tσ_2 : σ_2 2 = σ 2 := funext (fun i => hFσ_2 2 i (zc_out_ar zc_s2 rfl))
          have Nσ_2 : σ_2 1 1 = σ 1 1 := hFσ_2 1 1 (zc_out_at zc_s1 rfl)
          rw [Tσ_2, Nσ_2] at pσ17
          have t25 := zc_g1_2 hσ17 zc_s1
          have z3 := hi2_3.2 (by omega)
          rw [z3] at pσ17
          refine zr_if_ne (pc := 20) hV 25 dX4_readActs_20 (by decide) (by omega) (fun c26 => ?_) (fun c26 => ?_)
          · show V 25 [some (ZR 132), some (ZI x1_2)] [] 284 σ17
            have zy := zt_tk_y (t := σ 2) (n := σ 1 1) (c := 44) (a := zt_acA (zt_H (σ (sp + 1))) (σ 2) (σ 1 1) (zt_as (zt_H (σ (sp + 1))) (σ 2) (σ 1 1) (σ 1 2) (x1_2 - 1))) (by omega)
            refine zr_aload_n (pc := 25) hV dX4_readActs_25 rfl rfl ?_
            have t27 := zc_g4_6 hσ17 ksp
            have t28 : σ17 sp 6 = σ_2 sp 6 := hfσ17 _ _ (zc_out_at ksp rfl)
            have t29 : σ17 3 5 = σ_2 3 5 := hfσ17 _ _ (zc_out_at zc_s3 rfl)
            have t30 : σ_2 3 5 = σ 3 5 := hFσ_2 _ _ (zc_out_at zc_s3 rfl)
            refine zr_callVi (pc := 26) hV [] (st := []) (c_X4_readAct_2 (σ := σ17) hσ17 sp (by omega) ksp (by omega)) dX4_readActs_26 mX4_118 (zc_k132 zc_s132) (zc_pos zc_s132 rfl) (by decide) (Nat.le_of_ble_eq_true rfl) (Nat.le_refl _) (fun r26 σ26 hr26 pσ26 => ?_)
            obtain ⟨hσ26, hfσ26, hoσ26, pσ26, wσ26⟩ := pσ26
            have hFσ26 := zc_Fc hfσ26 rfl hFσ17
            have hOσ26 := zd_Oo hoσ26 hOσ17
            have t31 := zc_g1_1 hσ17 zc_s1
            have t32 : σ17 1 1 = σ_2 1 1 := hfσ17 _ _ (zc_out_at zc_s1 rfl)
            have t33 : σ_2 1 1 = σ 1 1 := hFσ_2 _ _ (zc_out_at zc_s1 rfl)
            have t34 := zc_g1_2 hσ17 zc_s1
            have Tσ17 : σ17 2 = σ 2 := funext (fun i => hFσ17 2 i (zc_out_ar zc_s2 rfl))
            have Nσ17 : σ17 1 1 = σ 1 1 := hFσ17 1 1 (zc_out_at zc_s1 rfl)
            have Hσ17 : σ17 (sp + 1) = σ (sp + 1) := funext (fun i => hFσ17 (sp + 1) i (zc_out_ar (zc_p4_1 ksp) rfl))
            rw [Tσ17, Nσ17, Hσ17] at pσ26
            rw [Tσ17, Nσ17, Hσ17] at wσ26
            have t35 := zc_g1_2 hσ26 zc_s1
            have zs : σ17 1 2 = (zt_as (zt_H (σ (sp + 1))) (σ 2) (σ 1 1) (σ 1 2) (x1_2)) := by rw [show (zt_as (zt_H (σ (sp + 1))) (σ 2) (σ 1 1) (σ 1 2) (x1_2)) = (zt_as (zt_H (σ (sp + 1))) (σ 2) (σ 1 1) (σ 1 2) (x1_2 - 1 + 1)) by rw [show x1_2 - 1 + 1 = x1_2 by omega], zt_as_s _ _ _ _ (by omega)]; omega
            have zc44 : 1 ≤ x1_2 → zt_nx (σ 2) (σ 1 1) (zt_acA (zt_H (σ (sp + 1))) (σ 2) (σ 1 1) (zt_as (zt_H (σ (sp + 1))) (σ 2) (σ 1 1) (σ 1 2) (x1_2 - 1))) = 44 := fun _ => zy.1
            have ac26 : zt_acts σ17 sp (zt_H (σ (sp + 1))) (σ 2) (σ 1 1) (σ 1 2) x1_2 := fun i h0 h1 => by rw [hfσ17 (sp + 2) _ (zc_out_ar (zc_p4_2 ksp) rfl), hfσ17 (sp + 3) _ (zc_out_ar (zc_p4_3 ksp) rfl), hfσ17 (sp + 4) _ (zc_out_ar (zc_p4_4 ksp) rfl), hfσ17 (sp + 5) _ (zc_out_ar (zc_p4_5 ksp) rfl)]; exact hi2_4 i h0 h1
            rw [zs] at pσ26 wσ26
            refine zr_if_ne (pc := 29) hV 34 dX4_readActs_29 (by decide) (by omega) (fun c36 => ?_) (fun c36 => ?_)
            · show V 34 [some (ZR 132), some (ZI x1_2)] [] 284 σ26
              have w26 := wσ26 (by omega)
              refine zr_iinc (pc := 34) hV [some (ZR 132), some (ZI (x1_2 + 1))] (x1_2 + 1) dX4_readActs_34 rfl rfl (by decide) rfl rfl ?_
              refine zr_goto (pc := 37) hV 2 dX4_readActs_37 (by decide) ?_
              have t37 := zc_g4_6 hσ26 ksp
              have t38 := zc_g1_2 hσ26 zc_s1
              have t39 := zc_g4_12 hσ26 ksp
              have t40 := zc_g4_13 hσ26 ksp
              exact ih2 (x1_2 + 1) σ26 (by omega) hσ26 hFσ26 hOσ26 (by have := w26.1; omega) (fun i h0 h1 => if hc : i = x1_2 then (by rw [hc]; omega) else hi2_1 i h0 (by omega)) (fun i h0 h1 => if hc : i + 1 = x1_2 then (by rw [show i = x1_2 - 1 by omega]; exact zc44 (by omega)) else hi2_2 i h0 (by omega)) ⟨fun h => absurd h (by omega), fun _ => by rw [show x1_2 + 1 - 1 = x1_2 by omega]; omega⟩ (zt_acts_add (by omega) (by omega) ac26 w26) (by rw [zt_nmK_s _ _ _ _ _ (by omega), ← hi2_5, w26.2.1, show σ17 sp 12 = σ_2 sp 12 by rw [hfσ17 sp _ (zc_out_at ksp rfl)]]) (by rw [zt_amK_s _ _ (by omega), ← hi2_6, w26.2.2.1, show σ17 sp 13 = σ_2 sp 13 by rw [hfσ17 sp _ (zc_out_at ksp rfl)]]) (by omega)
            · show V 32 [some (ZR 132), some (ZI x1_2)] [] 284 σ26
              have zfl := zt_s_fail (H := (zt_H (σ (sp + 1)))) (t := σ 2) (n := σ 1 1) (a := σ 1 2) (j := x1_2) (by omega) hi2_1 (fun i h0 h1 => if hc : i + 1 < x1_2 then hi2_2 i h0 hc else (by rw [show i = x1_2 - 1 by omega]; exact zc44 (by omega))) (by omega)
              refine zr_iconst (pc := 32) hV 0 dX4_readActs_32 rfl ?_
              have t41 := zc_g4_12 hσ26 ksp
              have t42 := zc_g4_13 hσ26 ksp
              have t43 := zc_g4_6 hσ26 ksp
              have t44 := zc_g1_2 hσ26 zc_s1
              exact zr_zret (pc := 33) hV dX4_readActs_33 rfl rfl (by omega) ⟨_, rfl, ⟨by decide, by decide⟩, hσ26, hFσ26, hOσ26, ⟨by omega, ⟨by omega, by omega⟩⟩, (show (0 : Int) = 1 → σ26 sp 6 = (zt_sN (zt_H (σ (sp + 1))) (σ 2) (σ 1 1) (σ 1 2)) ∧ zt_acts σ26 sp (zt_H (σ (sp + 1))) (σ 2) (σ 1 1) (σ 1 2) (zt_sN (zt_H (σ (sp + 1))) (σ 2) (σ 1 1) (σ 1 2)) ∧ σ26 sp 12 = zt_nmK (fun i => zt_tgR (zt_H (σ (sp + 1))) (σ 2) (σ 1 1) (zt_as (zt_H (σ (sp + 1))) (σ 2) (σ 1 1) (σ 1 2) i)) (fun i => zt_acL (zt_H (σ (sp + 1))) (σ 2) (σ 1 1) (zt_as (zt_H (σ (sp + 1))) (σ 2) (σ 1 1) (σ 1 2) i)) (fun i => zt_acS (zt_H (σ (sp + 1))) (σ 2) (σ 1 1) (zt_as (zt_H (σ (sp + 1))) (σ 2) (σ 1 1) (σ 1 2) i)) (fun i => zt_acV (zt_H (σ (sp + 1))) (σ 2) (σ 1 1) (zt_as (zt_H (σ (sp + 1))) (σ 2) (σ 1 1) (σ 1 2) i)) (σ sp 12) (zt_sN (zt_H (σ (sp + 1))) (σ 2) (σ 1 1) (σ 1 2)) ∧ σ26 sp 13 = zt_amK (fun i => zt_tgR (zt_H (σ (sp + 1))) (σ 2) (σ 1 1) (zt_as (zt_H (σ (sp + 1))) (σ 2) (σ 1 1) (σ 1 2) i)) (σ sp 13) (zt_sN (zt_H (σ (sp + 1))) (σ 2) (σ 1 1) (σ 1 2)) from (fun h => absurd h (by omega)))⟩
          · show V 23 [some (ZR 132), some (ZI x1_2)] [] 284 σ17
            have zn := zt_tk_n (t := σ 2) (n := σ 1 1) (c := 44) (a := zt_acA (zt_H (σ (sp + 1))) (σ 2) (σ 1 1) (zt_as (zt_H (σ (sp + 1))) (σ 2) (σ 1 1) (σ 1 2) (x1_2 - 1))) (by omega)
            have zst := zt_s_stop (j := x1_2) (by omega) hi2_1 hi2_2 zn.1
            refine zr_iconst (pc := 23) hV 1 dX4_readActs_23 rfl ?_
            have t45 := zc_g4_12 hσ17 ksp
            have t46 : σ17 sp 12 = σ_2 sp 12 := hfσ17 _ _ (zc_out_at ksp rfl)
            have t47 := zc_g4_13 hσ17 ksp
            have t48 : σ17 sp 13 = σ_2 sp 13 := hfσ17 _ _ (zc_out_at ksp rfl)
            have t49 := zc_g4_6 hσ17 ksp
            have t50 : σ17 sp 6 = σ_2 sp 6 := hfσ17 _ _ (zc_out_at ksp rfl)
            have t51 := zc_g1_2 hσ17 zc_s1
            exact zr_zret (pc := 24) hV dX4_readActs_24 rfl rfl (by omega) ⟨_, rfl, ⟨by decide, by decide⟩, hσ17, hFσ17, hOσ17, ⟨by omega, ⟨by omega, by omega⟩⟩, (show (1 : Int) = 1 → σ17 sp 6 = (zt_sN (zt_H (σ (sp + 1))) (σ 2) (σ 1 1) (σ 1 2)) ∧ zt_acts σ17 sp (zt_H (σ (sp + 1))) (σ 2) (σ 1 1) (σ 1 2) (zt_sN (zt_H (σ (sp + 1))) (σ 2) (σ 1 1) (σ 1 2)) ∧ σ17 sp 12 = zt_nmK (fun i => zt_tgR (zt_H (σ (sp + 1))) (σ 2) (σ 1 1) (zt_as (zt_H (σ (sp + 1))) (σ 2) (σ 1 1) (σ 1 2) i)) (fun i => zt_acL (zt_H (σ (sp + 1))) (σ 2) (σ 1 1) (zt_as (zt_H (σ (sp + 1))) (σ 2) (σ 1 1) (σ 1 2) i)) (fun i => zt_acS (zt_H (σ (sp + 1))) (σ 2) (σ 1 1) (zt_as (zt_H (σ (sp + 1))) (σ 2) (σ 1 1) (σ 1 2) i)) (fun i => zt_acV (zt_H (σ (sp + 1))) (σ 2) (σ 1 1) (zt_as (zt_H (σ (sp + 1))) (σ 2) (σ 1 1) (σ 1 2) i)) (σ sp 12) (zt_sN (zt_H (σ (sp + 1))) (σ 2) (σ 1 1) (σ 1 2)) ∧ σ17 sp 13 = zt_amK (fun i => zt_tgR (zt_H (σ (sp + 1))) (σ 2) (σ 1 1) (zt_as (zt_H (σ (sp + 1))) (σ 2) (σ 1 1) (σ 1 2) i)) (σ sp 13) (zt_sN (zt_H (σ (sp + 1))) (σ 2) (σ 1 1) (σ 1 2)) from (fun _ => ⟨by rw [hfσ17 sp _ (zc_out_at ksp rfl)]; omega, (fun i h0 h1 => by rw [hfσ17 (sp + 2) _ (zc_out_ar (zc_p4_2 ksp) rfl), hfσ17 (sp + 3) _ (zc_out_ar (zc_p4_3 ksp) rfl), hfσ17 (sp + 4) _ (zc_out_ar (zc_p4_4 ksp) rfl), hfσ17 (sp + 5) _ (zc_out_ar (zc_p4_5 ksp) rfl)]; exact hi2_4 i h0 (by omega)), by rw [hfσ17 sp _ (zc_out_at ksp rfl), zst.2.2]; exact hi2_5, by rw [hfσ17 sp _ (zc_out_at ksp rfl), zst.2.2]; exact hi2_6⟩))⟩
  have t52 := zc_g4_6 hσ ksp
  have t53 := zc_g1_2 hσ zc_s1
  have t54 := zc_g4_12 hσ ksp
  have t55 := zc_g4_13 hσ ksp
  exact L2 (3 - (0 : Int) + 1 : Int).toNat 0 σ (by omega) hσ hFσ hOσ (by omega) (fun i h0 h1 => absurd h1 (by omega)) (fun i h0 h1 => absurd h1 (by omega)) (by omega) (fun i h0 h1 => absurd h1 (by omega)) (by rw [zt_nmK_0]) (by rw [zt_amK_0]) (by omega)
set_option maxHeartbeats 800000 in
theorem c_X4_readGuard_2 {σ : zq_S} (hσ : zc_T σ) (sp : Int) (esp : σ 3 5 = sp) (ksp : zc_kd sp = 4) (q0 : σ sp 4 = 0 ∧ σ sp 5 = 0) : zq_C zc_w yX4_readGuard cX4_readGuard 3 (some .boolean) 3 64 284 284 [ZR 132] σ (zq_pi (fun r τ => zc_T τ ∧ zc_Fr [(1, 2), (4, 4), (4, 5), (4, 12)] σ τ ∧ zd_Own sp σ τ ∧ ((0 ≤ r ∧ r ≤ 1) ∧ r = zt_gR (zt_H (σ (sp + 1))) (σ 2) (σ 1 1) (σ 1 2) ∧ τ 1 2 = zt_gA (zt_H (σ (sp + 1))) (σ 2) (σ 1 1) (σ 1 2)) ∧ zq_hid (r = 1 → τ sp 4 = zt_gK (σ 2) (σ 1 1) (σ 1 2) ∧ τ sp 5 = zt_gO (zt_H (σ (sp + 1))) (σ 2) (σ 1 1) (σ 1 2) ∧ τ sp 12 = if zt_gK (σ 2) (σ 1 1) (σ 1 2) = 0 then σ sp 12 else zq_or (σ sp 12) (zt_nmb (zt_gO (zt_H (σ (sp + 1))) (σ 2) (σ 1 1) (σ 1 2)))))) := by
  refine zq_C_of (by decide) (Nat.le_refl _) (Nat.le_of_ble_eq_true rfl) [some (ZR 132), none, none] rfl (fun V hV => ?_)
  have hFσ := zc_Fr_rf [(1, 2), (4, 4), (4, 5), (4, 12)] σ
  have hOσ := zd_Own_rf sp σ
  have posp := zc_pos ksp rfl
  show V 0 [some (ZR 132), none, none] [] 284 σ
  refine zr_aload_n (pc := 0) hV dX4_readGuard_0 rfl rfl ?_
  refine zr_getR (pc := 1) hV 0 1 dX4_readGuard_1 fX4_15 rfl rfl (zc_k132 zc_s132) (zc_pos zc_s132 rfl) (zc_g132_0 hσ zc_s132) (by decide) ?_
  refine zr_bipush (pc := 4) hV 63 dX4_readGuard_4 (by decide) ?_
  refine zr_callVi (pc := 6) hV [ZI 63] (st := []) (c_X8_takes_2 (σ := σ) hσ 63 (by omega)) dX4_readGuard_6 mX4_27 (zc_k1 zc_s1) (zc_pos zc_s1 rfl) (by decide) (Nat.le_of_ble_eq_true rfl) (Nat.le_refl _) (fun r6 σ6 hr6 pσ6 => ?_)
  obtain ⟨hσ6, hfσ6, pσ6⟩ := pσ6
  have hFσ6 := zc_Fc hfσ6 rfl hFσ
  have hOσ6 := zd_Oc hfσ6 rfl hOσ
  have t1 := zc_g1_1 hσ zc_s1
  have t2 := zc_g1_2 hσ zc_s1
  have t3 := zc_g1_2 hσ6 zc_s1
  refine zr_if_ne (pc := 9) hV 14 dX4_readGuard_9 (by decide) (by omega) (fun c4 => ?_) (fun c4 => ?_)
  · show V 14 [some (ZR 132), none, none] [] 284 σ6
    refine zr_aload_n (pc := 14) hV dX4_readGuard_14 rfl rfl ?_
    refine zr_getR (pc := 15) hV 0 1 dX4_readGuard_15 fX4_15 rfl rfl (zc_k132 zc_s132) (zc_pos zc_s132 rfl) (zc_g132_0 hσ6 zc_s132) (by decide) ?_
    refine zr_bipush (pc := 18) hV 33 dX4_readGuard_18 (by decide) ?_
    refine zr_callVi (pc := 20) hV [ZI 33] (st := []) (c_X8_takes_2 (σ := σ6) hσ6 33 (by omega)) dX4_readGuard_20 mX4_27 (zc_k1 zc_s1) (zc_pos zc_s1 rfl) (by decide) (Nat.le_of_ble_eq_true rfl) (Nat.le_refl _) (fun r20 σ20 hr20 pσ20 => ?_)
    obtain ⟨hσ20, hfσ20, pσ20⟩ := pσ20
    have hFσ20 := zc_Fc hfσ20 rfl hFσ6
    have hOσ20 := zd_Oc hfσ20 rfl hOσ6
    have t5 := zc_g1_1 hσ6 zc_s1
    have t6 : σ6 1 1 = σ 1 1 := hfσ6 _ _ (zc_out_at zc_s1 rfl)
    have t7 := zc_g1_2 hσ6 zc_s1
    have Tσ6 : σ6 2 = σ 2 := funext (fun i => hFσ6 2 i (zc_out_ar zc_s2 rfl))
    have Nσ6 : σ6 1 1 = σ 1 1 := hFσ6 1 1 (zc_out_at zc_s1 rfl)
    rw [Tσ6, Nσ6] at pσ20
    have t8 := zc_g1_2 hσ20 zc_s1
    rw [show σ6 1 2 = zt_tkA (σ 2) (σ 1 1) 63 (σ 1 2) by omega] at pσ20
    refine zr_if_eq (pc := 23) hV 30 dX4_readGuard_23 (by decide) (by omega) (fun c9 => ?_) (fun c9 => ?_)
    · show V 30 [some (ZR 132), none, none] [] 284 σ20
      refine zr_iconst (pc := 30) hV 1 dX4_readGuard_30 rfl ?_
      show V 31 [some (ZR 132), none, none] [ZI 1] 284 σ20
      refine zr_istore_n (pc := 31) hV [some (ZR 132), some (ZI 1), none] dX4_readGuard_31 rfl (by decide) rfl rfl ?_
      have zg2 : σ20 1 2 = (zt_g2 (σ 2) (σ 1 1) (σ 1 2)) := by unfold zt_g2; omega
      have zgk : zt_gK (σ 2) (σ 1 1) (σ 1 2) = 1 := by unfold zt_gK; rw [if_neg (by omega), if_pos (by omega)]
      refine zr_aload_n (pc := 32) hV dX4_readGuard_32 rfl rfl ?_
      have t10 : σ20 3 5 = σ6 3 5 := hfσ20 _ _ (zc_out_at zc_s3 rfl)
      have t11 : σ6 3 5 = σ 3 5 := hfσ6 _ _ (zc_out_at zc_s3 rfl)
      refine zr_callVi (pc := 33) hV [] (st := []) (c_X4_nextStore_2 (σ := σ20) hσ20 sp (by omega) ksp) dX4_readGuard_33 mX4_111 (zc_k132 zc_s132) (zc_pos zc_s132 rfl) (by decide) (Nat.le_of_ble_eq_true rfl) (Nat.le_refl _) (fun r33 σ33 hr33 pσ33 => ?_)
      obtain ⟨hσ33, hfσ33, pσ33⟩ := pσ33
      have hFσ33 := zc_Fc hfσ33 rfl hFσ20
      have hOσ33 := zd_Oc hfσ33 rfl hOσ20
      have t12 := zc_g1_1 hσ20 zc_s1
      have t13 : σ20 1 1 = σ6 1 1 := hfσ20 _ _ (zc_out_at zc_s1 rfl)
      have t14 : σ6 1 1 = σ 1 1 := hfσ6 _ _ (zc_out_at zc_s1 rfl)
      have t15 := zc_g1_2 hσ20 zc_s1
      have Tσ20 : σ20 2 = σ 2 := funext (fun i => hFσ20 2 i (zc_out_ar zc_s2 rfl))
      have Nσ20 : σ20 1 1 = σ 1 1 := hFσ20 1 1 (zc_out_at zc_s1 rfl)
      have Hσ20 : σ20 (sp + 1) = σ (sp + 1) := funext (fun i => hFσ20 (sp + 1) i (zc_out_ar (zc_p4_1 ksp) rfl))
      rw [Tσ20, Nσ20, Hσ20] at pσ33
      have t16 := zc_g1_2 hσ33 zc_s1
      rw [zg2] at pσ33
      have zgo : zt_gO (zt_H (σ (sp + 1))) (σ 2) (σ 1 1) (σ 1 2) = r33 := by unfold zt_gO; rw [if_neg (by omega)]; omega
      refine zr_istore_n (pc := 36) hV [some (ZR 132), some (ZI 1), some (ZI r33)] dX4_readGuard_36 rfl (by decide) rfl rfl ?_
      refine zr_iload_n (pc := 37) hV dX4_readGuard_37 rfl rfl ?_
      refine zr_iconst (pc := 38) hV (-1) dX4_readGuard_38 rfl ?_
      refine zr_icmp_eq (pc := 39) hV 52 dX4_readGuard_39 (by decide) (by omega) ⟨by decide, by decide⟩ (fun c17 => ?_) (fun c17 => ?_)
      · show V 52 [some (ZR 132), some (ZI 1), some (ZI r33)] [] 284 σ33
        refine zr_iconst (pc := 52) hV 0 dX4_readGuard_52 rfl ?_
        have t18 := zc_g4_12 hσ33 ksp
        have t19 : σ33 sp 12 = σ20 sp 12 := hfσ33 _ _ (zc_out_at ksp rfl)
        have t20 : σ20 sp 12 = σ6 sp 12 := hfσ20 _ _ (zc_out_at ksp rfl)
        have t21 : σ6 sp 12 = σ sp 12 := hfσ6 _ _ (zc_out_at ksp rfl)
        have t22 := zc_g4_4 hσ33 ksp
        have t23 : σ33 sp 4 = σ20 sp 4 := hfσ33 _ _ (zc_out_at ksp rfl)
        have t24 : σ20 sp 4 = σ6 sp 4 := hfσ20 _ _ (zc_out_at ksp rfl)
        have t25 : σ6 sp 4 = σ sp 4 := hfσ6 _ _ (zc_out_at ksp rfl)
        have t26 := zc_g4_5 hσ33 ksp
        have t27 : σ33 sp 5 = σ20 sp 5 := hfσ33 _ _ (zc_out_at ksp rfl)
        have t28 : σ20 sp 5 = σ6 sp 5 := hfσ20 _ _ (zc_out_at ksp rfl)
        have t29 : σ6 sp 5 = σ sp 5 := hfσ6 _ _ (zc_out_at ksp rfl)
        have t30 := zc_g1_2 hσ33 zc_s1
        exact zr_zret (pc := 53) hV dX4_readGuard_53 rfl rfl (by omega) ⟨_, rfl, ⟨by decide, by decide⟩, hσ33, hFσ33, hOσ33, ⟨by omega, ⟨(by unfold zt_gR; repeat (first | rw [if_pos (by omega)] | rw [if_neg (by omega)]); all_goals omega), (by unfold zt_gA; repeat (first | rw [if_pos (by omega)] | rw [if_neg (by omega)]); all_goals omega)⟩⟩, (show (0 : Int) = 1 → σ33 sp 4 = zt_gK (σ 2) (σ 1 1) (σ 1 2) ∧ σ33 sp 5 = zt_gO (zt_H (σ (sp + 1))) (σ 2) (σ 1 1) (σ 1 2) ∧ σ33 sp 12 = if zt_gK (σ 2) (σ 1 1) (σ 1 2) = 0 then σ sp 12 else zq_or (σ sp 12) (zt_nmb (zt_gO (zt_H (σ (sp + 1))) (σ 2) (σ 1 1) (σ 1 2))) from (fun h => absurd h (by omega)))⟩
      · show V 42 [some (ZR 132), some (ZI 1), some (ZI r33)] [] 284 σ33
        refine zr_iload_n (pc := 42) hV dX4_readGuard_42 rfl rfl ?_
        refine zr_iconst (pc := 43) hV 3 dX4_readGuard_43 rfl ?_
        refine zr_icmp_eq (pc := 44) hV 52 dX4_readGuard_44 (by decide) (by omega) ⟨by decide, by decide⟩ (fun c31 => ?_) (fun c31 => ?_)
        · show V 52 [some (ZR 132), some (ZI 1), some (ZI r33)] [] 284 σ33
          refine zr_iconst (pc := 52) hV 0 dX4_readGuard_52 rfl ?_
          have t32 := zc_g4_12 hσ33 ksp
          have t33 : σ33 sp 12 = σ20 sp 12 := hfσ33 _ _ (zc_out_at ksp rfl)
          have t34 : σ20 sp 12 = σ6 sp 12 := hfσ20 _ _ (zc_out_at ksp rfl)
          have t35 : σ6 sp 12 = σ sp 12 := hfσ6 _ _ (zc_out_at ksp rfl)
          have t36 := zc_g4_4 hσ33 ksp
          have t37 : σ33 sp 4 = σ20 sp 4 := hfσ33 _ _ (zc_out_at ksp rfl)
          have t38 : σ20 sp 4 = σ6 sp 4 := hfσ20 _ _ (zc_out_at ksp rfl)
          have t39 : σ6 sp 4 = σ sp 4 := hfσ6 _ _ (zc_out_at ksp rfl)
          have t40 := zc_g4_5 hσ33 ksp
          have t41 : σ33 sp 5 = σ20 sp 5 := hfσ33 _ _ (zc_out_at ksp rfl)
          have t42 : σ20 sp 5 = σ6 sp 5 := hfσ20 _ _ (zc_out_at ksp rfl)
          have t43 : σ6 sp 5 = σ sp 5 := hfσ6 _ _ (zc_out_at ksp rfl)
          have t44 := zc_g1_2 hσ33 zc_s1
          exact zr_zret (pc := 53) hV dX4_readGuard_53 rfl rfl (by omega) ⟨_, rfl, ⟨by decide, by decide⟩, hσ33, hFσ33, hOσ33, ⟨by omega, ⟨(by unfold zt_gR; repeat (first | rw [if_pos (by omega)] | rw [if_neg (by omega)]); all_goals omega), (by unfold zt_gA; repeat (first | rw [if_pos (by omega)] | rw [if_neg (by omega)]); all_goals omega)⟩⟩, (show (0 : Int) = 1 → σ33 sp 4 = zt_gK (σ 2) (σ 1 1) (σ 1 2) ∧ σ33 sp 5 = zt_gO (zt_H (σ (sp + 1))) (σ 2) (σ 1 1) (σ 1 2) ∧ σ33 sp 12 = if zt_gK (σ 2) (σ 1 1) (σ 1 2) = 0 then σ sp 12 else zq_or (σ sp 12) (zt_nmb (zt_gO (zt_H (σ (sp + 1))) (σ 2) (σ 1 1) (σ 1 2))) from (fun h => absurd h (by omega)))⟩
        · show V 47 [some (ZR 132), some (ZI 1), some (ZI r33)] [] 284 σ33
          refine zr_iload_n (pc := 47) hV dX4_readGuard_47 rfl rfl ?_
          refine zr_iconst (pc := 48) hV 5 dX4_readGuard_48 rfl ?_
          refine zr_icmp_ne (pc := 49) hV 54 dX4_readGuard_49 (by decide) (by omega) ⟨by decide, by decide⟩ (fun c45 => ?_) (fun c45 => ?_)
          · show V 54 [some (ZR 132), some (ZI 1), some (ZI r33)] [] 284 σ33
            have znb := zt_ns_b (zt_H (σ (sp + 1))) (zt_nx (σ 2) (σ 1 1) (zt_g2 (σ 2) (σ 1 1) (σ 1 2)))
            have zi := zt_nx_in (t := σ 2) (n := σ 1 1) (a := (zt_g2 (σ 2) (σ 1 1) (σ 1 2))) (by omega)
            refine zr_aload_n (pc := 54) hV dX4_readGuard_54 rfl rfl ?_
            refine zr_getR (pc := 55) hV 0 1 dX4_readGuard_55 fX4_15 rfl rfl (zc_k132 zc_s132) (zc_pos zc_s132 rfl) (zc_g132_0 hσ33 zc_s132) (by decide) ?_
            refine zr_callVv (pc := 58) hV [] (st := []) (c_X8_pass_2 (σ := σ33) hσ33) dX4_readGuard_58 mX4_92 (zc_k1 zc_s1) (zc_pos zc_s1 rfl) (by decide) (Nat.le_of_ble_eq_true rfl) (Nat.le_refl _) (fun σ58 pσ58 => ?_)
            obtain ⟨hσ58, hfσ58, pσ58⟩ := pσ58
            have hFσ58 := zc_Fc hfσ58 rfl hFσ33
            have hOσ58 := zd_Oc hfσ58 rfl hOσ33
            have t46 := zc_g1_1 hσ33 zc_s1
            have t47 : σ33 1 1 = σ20 1 1 := hfσ33 _ _ (zc_out_at zc_s1 rfl)
            have t48 : σ20 1 1 = σ6 1 1 := hfσ20 _ _ (zc_out_at zc_s1 rfl)
            have t49 : σ6 1 1 = σ 1 1 := hfσ6 _ _ (zc_out_at zc_s1 rfl)
            have t50 := zc_g1_2 hσ33 zc_s1
            have t51 := zc_g1_2 hσ58 zc_s1
            refine zr_aload_n (pc := 61) hV dX4_readGuard_61 rfl rfl ?_
            refine zr_getR (pc := 62) hV 1 3 dX4_readGuard_62 fX4_19 rfl rfl (zc_k132 zc_s132) (zc_pos zc_s132 rfl) (zc_g132_1 hσ58 zc_s132) (by decide) ?_
            have t52 : σ58 3 5 = σ33 3 5 := hfσ58 _ _ (zc_out_at zc_s3 rfl)
            have t53 : σ33 3 5 = σ20 3 5 := hfσ33 _ _ (zc_out_at zc_s3 rfl)
            have t54 : σ20 3 5 = σ6 3 5 := hfσ20 _ _ (zc_out_at zc_s3 rfl)
            have t55 : σ6 3 5 = σ 3 5 := hfσ6 _ _ (zc_out_at zc_s3 rfl)
            refine zr_getR (pc := 65) hV 5 sp dX4_readGuard_65 fX4_49 rfl rfl (zc_k3 zc_s3) (zc_pos zc_s3 rfl) (by omega) (zc_pos ksp rfl).1 ?_
            refine zr_iload_n (pc := 68) hV dX4_readGuard_68 rfl rfl ?_
            refine zr_iload_n (pc := 69) hV dX4_readGuard_69 rfl rfl ?_
            refine zr_callVv (pc := 70) hV [ZI 1, ZI r33] (st := []) (c_X3_addGuard_2 (σ := σ58) hσ58 sp ksp 1 r33 (by omega) (by omega)) dX4_readGuard_70 mX4_114 (zc_k4 ksp) (zc_pos ksp rfl) (by decide) (Nat.le_of_ble_eq_true rfl) (Nat.le_refl _) (fun σ70 pσ70 => ?_)
            obtain ⟨hσ70, hfσ70, hoσ70, pσ70⟩ := pσ70
            have hFσ70 := zc_Fc hfσ70 rfl hFσ58
            have hOσ70 := zd_Oo hoσ70 hOσ58
            have t56 := zc_g4_12 hσ58 ksp
            have t57 : σ58 sp 12 = σ33 sp 12 := hfσ58 _ _ (zc_out_at ksp rfl)
            have t58 : σ33 sp 12 = σ20 sp 12 := hfσ33 _ _ (zc_out_at ksp rfl)
            have t59 : σ20 sp 12 = σ6 sp 12 := hfσ20 _ _ (zc_out_at ksp rfl)
            have t60 : σ6 sp 12 = σ sp 12 := hfσ6 _ _ (zc_out_at ksp rfl)
            have t61 := zc_g4_12 hσ70 ksp
            have t62 := zc_g4_4 hσ70 ksp
            have t63 := zc_g4_5 hσ70 ksp
            refine zr_aload_n (pc := 73) hV dX4_readGuard_73 rfl rfl ?_
            refine zr_getR (pc := 74) hV 0 1 dX4_readGuard_74 fX4_15 rfl rfl (zc_k132 zc_s132) (zc_pos zc_s132 rfl) (zc_g132_0 hσ70 zc_s132) (by decide) ?_
            refine zr_bipush (pc := 77) hV 44 dX4_readGuard_77 (by decide) ?_
            refine zr_callVi (pc := 79) hV [ZI 44] (st := []) (c_X8_takes_2 (σ := σ70) hσ70 44 (by omega)) dX4_readGuard_79 mX4_27 (zc_k1 zc_s1) (zc_pos zc_s1 rfl) (by decide) (Nat.le_of_ble_eq_true rfl) (Nat.le_refl _) (fun r79 σ79 hr79 pσ79 => ?_)
            obtain ⟨hσ79, hfσ79, pσ79⟩ := pσ79
            have hFσ79 := zc_Fc hfσ79 rfl hFσ70
            have hOσ79 := zd_Oc hfσ79 rfl hOσ70
            have t64 := zc_g1_1 hσ70 zc_s1
            have t65 : σ70 1 1 = σ58 1 1 := hfσ70 _ _ (zc_out_at zc_s1 rfl)
            have t66 : σ58 1 1 = σ33 1 1 := hfσ58 _ _ (zc_out_at zc_s1 rfl)
            have t67 : σ33 1 1 = σ20 1 1 := hfσ33 _ _ (zc_out_at zc_s1 rfl)
            have t68 : σ20 1 1 = σ6 1 1 := hfσ20 _ _ (zc_out_at zc_s1 rfl)
            have t69 : σ6 1 1 = σ 1 1 := hfσ6 _ _ (zc_out_at zc_s1 rfl)
            have t70 := zc_g1_2 hσ70 zc_s1
            have t71 : σ70 1 2 = σ58 1 2 := hfσ70 _ _ (zc_out_at zc_s1 rfl)
            have Tσ70 : σ70 2 = σ 2 := funext (fun i => hFσ70 2 i (zc_out_ar zc_s2 rfl))
            have Nσ70 : σ70 1 1 = σ 1 1 := hFσ70 1 1 (zc_out_at zc_s1 rfl)
            rw [Tσ70, Nσ70] at pσ79
            have t72 := zc_g1_2 hσ79 zc_s1
            rw [show σ70 1 2 = zt_sk (σ 2) (σ 1 1) (zt_g2 (σ 2) (σ 1 1) (σ 1 2)) + 1 by omega] at pσ79
            have t73 := zc_g4_12 hσ79 ksp
            have t74 : σ79 sp 12 = σ70 sp 12 := hfσ79 _ _ (zc_out_at ksp rfl)
            have t75 := zc_g4_4 hσ79 ksp
            have t76 : σ79 sp 4 = σ70 sp 4 := hfσ79 _ _ (zc_out_at ksp rfl)
            have t77 := zc_g4_5 hσ79 ksp
            have t78 : σ79 sp 5 = σ70 sp 5 := hfσ79 _ _ (zc_out_at ksp rfl)
            have t79 := zc_g1_2 hσ79 zc_s1
            exact zr_zret (pc := 82) hV dX4_readGuard_82 rfl rfl (by omega) ⟨_, rfl, (by omega), hσ79, hFσ79, hOσ79, ⟨by omega, ⟨(by unfold zt_gR; repeat (first | rw [if_pos (by omega)] | rw [if_neg (by omega)]); all_goals omega), (by unfold zt_gA; repeat (first | rw [if_pos (by omega)] | rw [if_neg (by omega)]); all_goals omega)⟩⟩, (show r79 = 1 → σ79 sp 4 = zt_gK (σ 2) (σ 1 1) (σ 1 2) ∧ σ79 sp 5 = zt_gO (zt_H (σ (sp + 1))) (σ 2) (σ 1 1) (σ 1 2) ∧ σ79 sp 12 = if zt_gK (σ 2) (σ 1 1) (σ 1 2) = 0 then σ sp 12 else zq_or (σ sp 12) (zt_nmb (zt_gO (zt_H (σ (sp + 1))) (σ 2) (σ 1 1) (σ 1 2))) from (fun _ => ⟨by rw [hfσ79 sp _ (zc_out_at ksp rfl)]; omega, by rw [hfσ79 sp _ (zc_out_at ksp rfl)]; omega, by rw [hfσ79 sp _ (zc_out_at ksp rfl), if_neg (by omega), pσ70.2.2, hfσ58 sp _ (zc_out_at ksp rfl), hfσ33 sp _ (zc_out_at ksp rfl), hfσ20 sp _ (zc_out_at ksp rfl), hfσ6 sp _ (zc_out_at ksp rfl), show r33 = zt_gO (zt_H (σ (sp + 1))) (σ 2) (σ 1 1) (σ 1 2) by omega]⟩))⟩
          · show V 52 [some (ZR 132), some (ZI 1), some (ZI r33)] [] 284 σ33
            refine zr_iconst (pc := 52) hV 0 dX4_readGuard_52 rfl ?_
            have t80 := zc_g4_12 hσ33 ksp
            have t81 : σ33 sp 12 = σ20 sp 12 := hfσ33 _ _ (zc_out_at ksp rfl)
            have t82 : σ20 sp 12 = σ6 sp 12 := hfσ20 _ _ (zc_out_at ksp rfl)
            have t83 : σ6 sp 12 = σ sp 12 := hfσ6 _ _ (zc_out_at ksp rfl)
            have t84 := zc_g4_4 hσ33 ksp
            have t85 : σ33 sp 4 = σ20 sp 4 := hfσ33 _ _ (zc_out_at ksp rfl)
            have t86 : σ20 sp 4 = σ6 sp 4 := hfσ20 _ _ (zc_out_at ksp rfl)
            have t87 : σ6 sp 4 = σ sp 4 := hfσ6 _ _ (zc_out_at ksp rfl)
            have t88 := zc_g4_5 hσ33 ksp
            have t89 : σ33 sp 5 = σ20 sp 5 := hfσ33 _ _ (zc_out_at ksp rfl)
            have t90 : σ20 sp 5 = σ6 sp 5 := hfσ20 _ _ (zc_out_at ksp rfl)
            have t91 : σ6 sp 5 = σ sp 5 := hfσ6 _ _ (zc_out_at ksp rfl)
            have t92 := zc_g1_2 hσ33 zc_s1
            exact zr_zret (pc := 53) hV dX4_readGuard_53 rfl rfl (by omega) ⟨_, rfl, ⟨by decide, by decide⟩, hσ33, hFσ33, hOσ33, ⟨by omega, ⟨(by unfold zt_gR; repeat (first | rw [if_pos (by omega)] | rw [if_neg (by omega)]); all_goals omega), (by unfold zt_gA; repeat (first | rw [if_pos (by omega)] | rw [if_neg (by omega)]); all_goals omega)⟩⟩, (show (0 : Int) = 1 → σ33 sp 4 = zt_gK (σ 2) (σ 1 1) (σ 1 2) ∧ σ33 sp 5 = zt_gO (zt_H (σ (sp + 1))) (σ 2) (σ 1 1) (σ 1 2) ∧ σ33 sp 12 = if zt_gK (σ 2) (σ 1 1) (σ 1 2) = 0 then σ sp 12 else zq_or (σ sp 12) (zt_nmb (zt_gO (zt_H (σ (sp + 1))) (σ 2) (σ 1 1) (σ 1 2))) from (fun h => absurd h (by omega)))⟩
    · show V 26 [some (ZR 132), none, none] [] 284 σ20
      refine zr_iconst (pc := 26) hV 2 dX4_readGuard_26 rfl ?_
      refine zr_goto (pc := 27) hV 31 dX4_readGuard_27 (by decide) ?_
      show V 31 [some (ZR 132), none, none] [ZI 2] 284 σ20
      refine zr_istore_n (pc := 31) hV [some (ZR 132), some (ZI 2), none] dX4_readGuard_31 rfl (by decide) rfl rfl ?_
      have zg2 : σ20 1 2 = (zt_g2 (σ 2) (σ 1 1) (σ 1 2)) := by unfold zt_g2; omega
      have zgk : zt_gK (σ 2) (σ 1 1) (σ 1 2) = 2 := by unfold zt_gK; rw [if_neg (by omega), if_neg (by omega)]
      refine zr_aload_n (pc := 32) hV dX4_readGuard_32 rfl rfl ?_
      have t93 : σ20 3 5 = σ6 3 5 := hfσ20 _ _ (zc_out_at zc_s3 rfl)
      have t94 : σ6 3 5 = σ 3 5 := hfσ6 _ _ (zc_out_at zc_s3 rfl)
      refine zr_callVi (pc := 33) hV [] (st := []) (c_X4_nextStore_2 (σ := σ20) hσ20 sp (by omega) ksp) dX4_readGuard_33 mX4_111 (zc_k132 zc_s132) (zc_pos zc_s132 rfl) (by decide) (Nat.le_of_ble_eq_true rfl) (Nat.le_refl _) (fun r33 σ33 hr33 pσ33 => ?_)
      obtain ⟨hσ33, hfσ33, pσ33⟩ := pσ33
      have hFσ33 := zc_Fc hfσ33 rfl hFσ20
      have hOσ33 := zd_Oc hfσ33 rfl hOσ20
      have t95 := zc_g1_1 hσ20 zc_s1
      have t96 : σ20 1 1 = σ6 1 1 := hfσ20 _ _ (zc_out_at zc_s1 rfl)
      have t97 : σ6 1 1 = σ 1 1 := hfσ6 _ _ (zc_out_at zc_s1 rfl)
      have t98 := zc_g1_2 hσ20 zc_s1
      have Tσ20 : σ20 2 = σ 2 := funext (fun i => hFσ20 2 i (zc_out_ar zc_s2 rfl))
      have Nσ20 : σ20 1 1 = σ 1 1 := hFσ20 1 1 (zc_out_at zc_s1 rfl)
      have Hσ20 : σ20 (sp + 1) = σ (sp + 1) := funext (fun i => hFσ20 (sp + 1) i (zc_out_ar (zc_p4_1 ksp) rfl))
      rw [Tσ20, Nσ20, Hσ20] at pσ33
      have t99 := zc_g1_2 hσ33 zc_s1
      rw [zg2] at pσ33
      have zgo : zt_gO (zt_H (σ (sp + 1))) (σ 2) (σ 1 1) (σ 1 2) = r33 := by unfold zt_gO; rw [if_neg (by omega)]; omega
      refine zr_istore_n (pc := 36) hV [some (ZR 132), some (ZI 2), some (ZI r33)] dX4_readGuard_36 rfl (by decide) rfl rfl ?_
      refine zr_iload_n (pc := 37) hV dX4_readGuard_37 rfl rfl ?_
      refine zr_iconst (pc := 38) hV (-1) dX4_readGuard_38 rfl ?_
      refine zr_icmp_eq (pc := 39) hV 52 dX4_readGuard_39 (by decide) (by omega) ⟨by decide, by decide⟩ (fun c100 => ?_) (fun c100 => ?_)
      · show V 52 [some (ZR 132), some (ZI 2), some (ZI r33)] [] 284 σ33
        refine zr_iconst (pc := 52) hV 0 dX4_readGuard_52 rfl ?_
        have t101 := zc_g4_12 hσ33 ksp
        have t102 : σ33 sp 12 = σ20 sp 12 := hfσ33 _ _ (zc_out_at ksp rfl)
        have t103 : σ20 sp 12 = σ6 sp 12 := hfσ20 _ _ (zc_out_at ksp rfl)
        have t104 : σ6 sp 12 = σ sp 12 := hfσ6 _ _ (zc_out_at ksp rfl)
        have t105 := zc_g4_4 hσ33 ksp
        have t106 : σ33 sp 4 = σ20 sp 4 := hfσ33 _ _ (zc_out_at ksp rfl)
        have t107 : σ20 sp 4 = σ6 sp 4 := hfσ20 _ _ (zc_out_at ksp rfl)
        have t108 : σ6 sp 4 = σ sp 4 := hfσ6 _ _ (zc_out_at ksp rfl)
        have t109 := zc_g4_5 hσ33 ksp
        have t110 : σ33 sp 5 = σ20 sp 5 := hfσ33 _ _ (zc_out_at ksp rfl)
        have t111 : σ20 sp 5 = σ6 sp 5 := hfσ20 _ _ (zc_out_at ksp rfl)
        have t112 : σ6 sp 5 = σ sp 5 := hfσ6 _ _ (zc_out_at ksp rfl)
        have t113 := zc_g1_2 hσ33 zc_s1
        exact zr_zret (pc := 53) hV dX4_readGuard_53 rfl rfl (by omega) ⟨_, rfl, ⟨by decide, by decide⟩, hσ33, hFσ33, hOσ33, ⟨by omega, ⟨(by unfold zt_gR; repeat (first | rw [if_pos (by omega)] | rw [if_neg (by omega)]); all_goals omega), (by unfold zt_gA; repeat (first | rw [if_pos (by omega)] | rw [if_neg (by omega)]); all_goals omega)⟩⟩, (show (0 : Int) = 1 → σ33 sp 4 = zt_gK (σ 2) (σ 1 1) (σ 1 2) ∧ σ33 sp 5 = zt_gO (zt_H (σ (sp + 1))) (σ 2) (σ 1 1) (σ 1 2) ∧ σ33 sp 12 = if zt_gK (σ 2) (σ 1 1) (σ 1 2) = 0 then σ sp 12 else zq_or (σ sp 12) (zt_nmb (zt_gO (zt_H (σ (sp + 1))) (σ 2) (σ 1 1) (σ 1 2))) from (fun h => absurd h (by omega)))⟩
      · show V 42 [some (ZR 132), some (ZI 2), some (ZI r33)] [] 284 σ33
        refine zr_iload_n (pc := 42) hV dX4_readGuard_42 rfl rfl ?_
        refine zr_iconst (pc := 43) hV 3 dX4_readGuard_43 rfl ?_
        refine zr_icmp_eq (pc := 44) hV 52 dX4_readGuard_44 (by decide) (by omega) ⟨by decide, by decide⟩ (fun c114 => ?_) (fun c114 => ?_)
        · show V 52 [some (ZR 132), some (ZI 2), some (ZI r33)] [] 284 σ33
          refine zr_iconst (pc := 52) hV 0 dX4_readGuard_52 rfl ?_
          have t115 := zc_g4_12 hσ33 ksp
          have t116 : σ33 sp 12 = σ20 sp 12 := hfσ33 _ _ (zc_out_at ksp rfl)
          have t117 : σ20 sp 12 = σ6 sp 12 := hfσ20 _ _ (zc_out_at ksp rfl)
          have t118 : σ6 sp 12 = σ sp 12 := hfσ6 _ _ (zc_out_at ksp rfl)
          have t119 := zc_g4_4 hσ33 ksp
          have t120 : σ33 sp 4 = σ20 sp 4 := hfσ33 _ _ (zc_out_at ksp rfl)
          have t121 : σ20 sp 4 = σ6 sp 4 := hfσ20 _ _ (zc_out_at ksp rfl)
          have t122 : σ6 sp 4 = σ sp 4 := hfσ6 _ _ (zc_out_at ksp rfl)
          have t123 := zc_g4_5 hσ33 ksp
          have t124 : σ33 sp 5 = σ20 sp 5 := hfσ33 _ _ (zc_out_at ksp rfl)
          have t125 : σ20 sp 5 = σ6 sp 5 := hfσ20 _ _ (zc_out_at ksp rfl)
          have t126 : σ6 sp 5 = σ sp 5 := hfσ6 _ _ (zc_out_at ksp rfl)
          have t127 := zc_g1_2 hσ33 zc_s1
          exact zr_zret (pc := 53) hV dX4_readGuard_53 rfl rfl (by omega) ⟨_, rfl, ⟨by decide, by decide⟩, hσ33, hFσ33, hOσ33, ⟨by omega, ⟨(by unfold zt_gR; repeat (first | rw [if_pos (by omega)] | rw [if_neg (by omega)]); all_goals omega), (by unfold zt_gA; repeat (first | rw [if_pos (by omega)] | rw [if_neg (by omega)]); all_goals omega)⟩⟩, (show (0 : Int) = 1 → σ33 sp 4 = zt_gK (σ 2) (σ 1 1) (σ 1 2) ∧ σ33 sp 5 = zt_gO (zt_H (σ (sp + 1))) (σ 2) (σ 1 1) (σ 1 2) ∧ σ33 sp 12 = if zt_gK (σ 2) (σ 1 1) (σ 1 2) = 0 then σ sp 12 else zq_or (σ sp 12) (zt_nmb (zt_gO (zt_H (σ (sp + 1))) (σ 2) (σ 1 1) (σ 1 2))) from (fun h => absurd h (by omega)))⟩
        · show V 47 [some (ZR 132), some (ZI 2), some (ZI r33)] [] 284 σ33
          refine zr_iload_n (pc := 47) hV dX4_readGuard_47 rfl rfl ?_
          refine zr_iconst (pc := 48) hV 5 dX4_readGuard_48 rfl ?_
          refine zr_icmp_ne (pc := 49) hV 54 dX4_readGuard_49 (by decide) (by omega) ⟨by decide, by decide⟩ (fun c128 => ?_) (fun c128 => ?_)
          · show V 54 [some (ZR 132), some (ZI 2), some (ZI r33)] [] 284 σ33
            have znb := zt_ns_b (zt_H (σ (sp + 1))) (zt_nx (σ 2) (σ 1 1) (zt_g2 (σ 2) (σ 1 1) (σ 1 2)))
            have zi := zt_nx_in (t := σ 2) (n := σ 1 1) (a := (zt_g2 (σ 2) (σ 1 1) (σ 1 2))) (by omega)
            refine zr_aload_n (pc := 54) hV dX4_readGuard_54 rfl rfl ?_
            refine zr_getR (pc := 55) hV 0 1 dX4_readGuard_55 fX4_15 rfl rfl (zc_k132 zc_s132) (zc_pos zc_s132 rfl) (zc_g132_0 hσ33 zc_s132) (by decide) ?_
            refine zr_callVv (pc := 58) hV [] (st := []) (c_X8_pass_2 (σ := σ33) hσ33) dX4_readGuard_58 mX4_92 (zc_k1 zc_s1) (zc_pos zc_s1 rfl) (by decide) (Nat.le_of_ble_eq_true rfl) (Nat.le_refl _) (fun σ58 pσ58 => ?_)
            obtain ⟨hσ58, hfσ58, pσ58⟩ := pσ58
            have hFσ58 := zc_Fc hfσ58 rfl hFσ33
            have hOσ58 := zd_Oc hfσ58 rfl hOσ33
            have t129 := zc_g1_1 hσ33 zc_s1
            have t130 : σ33 1 1 = σ20 1 1 := hfσ33 _ _ (zc_out_at zc_s1 rfl)
            have t131 : σ20 1 1 = σ6 1 1 := hfσ20 _ _ (zc_out_at zc_s1 rfl)
            have t132 : σ6 1 1 = σ 1 1 := hfσ6 _ _ (zc_out_at zc_s1 rfl)
            have t133 := zc_g1_2 hσ33 zc_s1
            have t134 := zc_g1_2 hσ58 zc_s1
            refine zr_aload_n (pc := 61) hV dX4_readGuard_61 rfl rfl ?_
            refine zr_getR (pc := 62) hV 1 3 dX4_readGuard_62 fX4_19 rfl rfl (zc_k132 zc_s132) (zc_pos zc_s132 rfl) (zc_g132_1 hσ58 zc_s132) (by decide) ?_
            have t135 : σ58 3 5 = σ33 3 5 := hfσ58 _ _ (zc_out_at zc_s3 rfl)
            have t136 : σ33 3 5 = σ20 3 5 := hfσ33 _ _ (zc_out_at zc_s3 rfl)
            have t137 : σ20 3 5 = σ6 3 5 := hfσ20 _ _ (zc_out_at zc_s3 rfl)
            have t138 : σ6 3 5 = σ 3 5 := hfσ6 _ _ (zc_out_at zc_s3 rfl)
            refine zr_getR (pc := 65) hV 5 sp dX4_readGuard_65 fX4_49 rfl rfl (zc_k3 zc_s3) (zc_pos zc_s3 rfl) (by omega) (zc_pos ksp rfl).1 ?_
            refine zr_iload_n (pc := 68) hV dX4_readGuard_68 rfl rfl ?_
            refine zr_iload_n (pc := 69) hV dX4_readGuard_69 rfl rfl ?_
            refine zr_callVv (pc := 70) hV [ZI 2, ZI r33] (st := []) (c_X3_addGuard_2 (σ := σ58) hσ58 sp ksp 2 r33 (by omega) (by omega)) dX4_readGuard_70 mX4_114 (zc_k4 ksp) (zc_pos ksp rfl) (by decide) (Nat.le_of_ble_eq_true rfl) (Nat.le_refl _) (fun σ70 pσ70 => ?_)
            obtain ⟨hσ70, hfσ70, hoσ70, pσ70⟩ := pσ70
            have hFσ70 := zc_Fc hfσ70 rfl hFσ58
            have hOσ70 := zd_Oo hoσ70 hOσ58
            have t139 := zc_g4_12 hσ58 ksp
            have t140 : σ58 sp 12 = σ33 sp 12 := hfσ58 _ _ (zc_out_at ksp rfl)
            have t141 : σ33 sp 12 = σ20 sp 12 := hfσ33 _ _ (zc_out_at ksp rfl)
            have t142 : σ20 sp 12 = σ6 sp 12 := hfσ20 _ _ (zc_out_at ksp rfl)
            have t143 : σ6 sp 12 = σ sp 12 := hfσ6 _ _ (zc_out_at ksp rfl)
            have t144 := zc_g4_12 hσ70 ksp
            have t145 := zc_g4_4 hσ70 ksp
            have t146 := zc_g4_5 hσ70 ksp
            refine zr_aload_n (pc := 73) hV dX4_readGuard_73 rfl rfl ?_
            refine zr_getR (pc := 74) hV 0 1 dX4_readGuard_74 fX4_15 rfl rfl (zc_k132 zc_s132) (zc_pos zc_s132 rfl) (zc_g132_0 hσ70 zc_s132) (by decide) ?_
            refine zr_bipush (pc := 77) hV 44 dX4_readGuard_77 (by decide) ?_
            refine zr_callVi (pc := 79) hV [ZI 44] (st := []) (c_X8_takes_2 (σ := σ70) hσ70 44 (by omega)) dX4_readGuard_79 mX4_27 (zc_k1 zc_s1) (zc_pos zc_s1 rfl) (by decide) (Nat.le_of_ble_eq_true rfl) (Nat.le_refl _) (fun r79 σ79 hr79 pσ79 => ?_)
            obtain ⟨hσ79, hfσ79, pσ79⟩ := pσ79
            have hFσ79 := zc_Fc hfσ79 rfl hFσ70
            have hOσ79 := zd_Oc hfσ79 rfl hOσ70
            have t147 := zc_g1_1 hσ70 zc_s1
            have t148 : σ70 1 1 = σ58 1 1 := hfσ70 _ _ (zc_out_at zc_s1 rfl)
            have t149 : σ58 1 1 = σ33 1 1 := hfσ58 _ _ (zc_out_at zc_s1 rfl)
            have t150 : σ33 1 1 = σ20 1 1 := hfσ33 _ _ (zc_out_at zc_s1 rfl)
            have t151 : σ20 1 1 = σ6 1 1 := hfσ20 _ _ (zc_out_at zc_s1 rfl)
            have t152 : σ6 1 1 = σ 1 1 := hfσ6 _ _ (zc_out_at zc_s1 rfl)
            have t153 := zc_g1_2 hσ70 zc_s1
            have t154 : σ70 1 2 = σ58 1 2 := hfσ70 _ _ (zc_out_at zc_s1 rfl)
            have Tσ70 : σ70 2 = σ 2 := funext (fun i => hFσ70 2 i (zc_out_ar zc_s2 rfl))
            have Nσ70 : σ70 1 1 = σ 1 1 := hFσ70 1 1 (zc_out_at zc_s1 rfl)
            rw [Tσ70, Nσ70] at pσ79
            have t155 := zc_g1_2 hσ79 zc_s1
            rw [show σ70 1 2 = zt_sk (σ 2) (σ 1 1) (zt_g2 (σ 2) (σ 1 1) (σ 1 2)) + 1 by omega] at pσ79
            have t156 := zc_g4_12 hσ79 ksp
            have t157 : σ79 sp 12 = σ70 sp 12 := hfσ79 _ _ (zc_out_at ksp rfl)
            have t158 := zc_g4_4 hσ79 ksp
            have t159 : σ79 sp 4 = σ70 sp 4 := hfσ79 _ _ (zc_out_at ksp rfl)
            have t160 := zc_g4_5 hσ79 ksp
            have t161 : σ79 sp 5 = σ70 sp 5 := hfσ79 _ _ (zc_out_at ksp rfl)
            have t162 := zc_g1_2 hσ79 zc_s1
            exact zr_zret (pc := 82) hV dX4_readGuard_82 rfl rfl (by omega) ⟨_, rfl, (by omega), hσ79, hFσ79, hOσ79, ⟨by omega, ⟨(by unfold zt_gR; repeat (first | rw [if_pos (by omega)] | rw [if_neg (by omega)]); all_goals omega), (by unfold zt_gA; repeat (first | rw [if_pos (by omega)] | rw [if_neg (by omega)]); all_goals omega)⟩⟩, (show r79 = 1 → σ79 sp 4 = zt_gK (σ 2) (σ 1 1) (σ 1 2) ∧ σ79 sp 5 = zt_gO (zt_H (σ (sp + 1))) (σ 2) (σ 1 1) (σ 1 2) ∧ σ79 sp 12 = if zt_gK (σ 2) (σ 1 1) (σ 1 2) = 0 then σ sp 12 else zq_or (σ sp 12) (zt_nmb (zt_gO (zt_H (σ (sp + 1))) (σ 2) (σ 1 1) (σ 1 2))) from (fun _ => ⟨by rw [hfσ79 sp _ (zc_out_at ksp rfl)]; omega, by rw [hfσ79 sp _ (zc_out_at ksp rfl)]; omega, by rw [hfσ79 sp _ (zc_out_at ksp rfl), if_neg (by omega), pσ70.2.2, hfσ58 sp _ (zc_out_at ksp rfl), hfσ33 sp _ (zc_out_at ksp rfl), hfσ20 sp _ (zc_out_at ksp rfl), hfσ6 sp _ (zc_out_at ksp rfl), show r33 = zt_gO (zt_H (σ (sp + 1))) (σ 2) (σ 1 1) (σ 1 2) by omega]⟩))⟩
          · show V 52 [some (ZR 132), some (ZI 2), some (ZI r33)] [] 284 σ33
            refine zr_iconst (pc := 52) hV 0 dX4_readGuard_52 rfl ?_
            have t163 := zc_g4_12 hσ33 ksp
            have t164 : σ33 sp 12 = σ20 sp 12 := hfσ33 _ _ (zc_out_at ksp rfl)
            have t165 : σ20 sp 12 = σ6 sp 12 := hfσ20 _ _ (zc_out_at ksp rfl)
            have t166 : σ6 sp 12 = σ sp 12 := hfσ6 _ _ (zc_out_at ksp rfl)
            have t167 := zc_g4_4 hσ33 ksp
            have t168 : σ33 sp 4 = σ20 sp 4 := hfσ33 _ _ (zc_out_at ksp rfl)
            have t169 : σ20 sp 4 = σ6 sp 4 := hfσ20 _ _ (zc_out_at ksp rfl)
            have t170 : σ6 sp 4 = σ sp 4 := hfσ6 _ _ (zc_out_at ksp rfl)
            have t171 := zc_g4_5 hσ33 ksp
            have t172 : σ33 sp 5 = σ20 sp 5 := hfσ33 _ _ (zc_out_at ksp rfl)
            have t173 : σ20 sp 5 = σ6 sp 5 := hfσ20 _ _ (zc_out_at ksp rfl)
            have t174 : σ6 sp 5 = σ sp 5 := hfσ6 _ _ (zc_out_at ksp rfl)
            have t175 := zc_g1_2 hσ33 zc_s1
            exact zr_zret (pc := 53) hV dX4_readGuard_53 rfl rfl (by omega) ⟨_, rfl, ⟨by decide, by decide⟩, hσ33, hFσ33, hOσ33, ⟨by omega, ⟨(by unfold zt_gR; repeat (first | rw [if_pos (by omega)] | rw [if_neg (by omega)]); all_goals omega), (by unfold zt_gA; repeat (first | rw [if_pos (by omega)] | rw [if_neg (by omega)]); all_goals omega)⟩⟩, (show (0 : Int) = 1 → σ33 sp 4 = zt_gK (σ 2) (σ 1 1) (σ 1 2) ∧ σ33 sp 5 = zt_gO (zt_H (σ (sp + 1))) (σ 2) (σ 1 1) (σ 1 2) ∧ σ33 sp 12 = if zt_gK (σ 2) (σ 1 1) (σ 1 2) = 0 then σ sp 12 else zq_or (σ sp 12) (zt_nmb (zt_gO (zt_H (σ (sp + 1))) (σ 2) (σ 1 1) (σ 1 2))) from (fun h => absurd h (by omega)))⟩
  · show V 12 [some (ZR 132), none, none] [] 284 σ6
    refine zr_iconst (pc := 12) hV 1 dX4_readGuard_12 rfl ?_
    have t176 := zc_g4_12 hσ6 ksp
    have t177 : σ6 sp 12 = σ sp 12 := hfσ6 _ _ (zc_out_at ksp rfl)
    have t178 := zc_g4_4 hσ6 ksp
    have t179 : σ6 sp 4 = σ sp 4 := hfσ6 _ _ (zc_out_at ksp rfl)
    have t180 := zc_g4_5 hσ6 ksp
    have t181 : σ6 sp 5 = σ sp 5 := hfσ6 _ _ (zc_out_at ksp rfl)
    have t182 := zc_g1_2 hσ6 zc_s1
    exact zr_zret (pc := 13) hV dX4_readGuard_13 rfl rfl (by omega) ⟨_, rfl, ⟨by decide, by decide⟩, hσ6, hFσ6, hOσ6, ⟨by omega, ⟨(by unfold zt_gR; repeat (first | rw [if_pos (by omega)] | rw [if_neg (by omega)]); all_goals omega), (by unfold zt_gA; repeat (first | rw [if_pos (by omega)] | rw [if_neg (by omega)]); all_goals omega)⟩⟩, (show (1 : Int) = 1 → σ6 sp 4 = zt_gK (σ 2) (σ 1 1) (σ 1 2) ∧ σ6 sp 5 = zt_gO (zt_H (σ (sp + 1))) (σ 2) (σ 1 1) (σ 1 2) ∧ σ6 sp 12 = if zt_gK (σ 2) (σ 1 1) (σ 1 2) = 0 then σ sp 12 else zq_or (σ sp 12) (zt_nmb (zt_gO (zt_H (σ (sp + 1))) (σ 2) (σ 1 1) (σ 1 2))) from (fun _ => ⟨by rw [hfσ6 sp _ (zc_out_at ksp rfl), show zt_gK (σ 2) (σ 1 1) (σ 1 2) = 0 by unfold zt_gK; rw [if_pos (by omega)]]; omega, by rw [hfσ6 sp _ (zc_out_at ksp rfl), show zt_gO (zt_H (σ (sp + 1))) (σ 2) (σ 1 1) (σ 1 2) = 0 by unfold zt_gO; rw [if_pos (by omega)]]; omega, by rw [hfσ6 sp _ (zc_out_at ksp rfl), show zt_gK (σ 2) (σ 1 1) (σ 1 2) = 0 by unfold zt_gK; rw [if_pos (by omega)], if_pos rfl]⟩))⟩
set_option maxHeartbeats 800000 in
theorem c_X4_readTicks_2 {σ : zq_S} (hσ : zc_T σ) (sp : Int) (esp : σ 3 5 = sp) (ksp : zc_kd sp = 4)  : zq_C zc_w yX4_readTicks cX4_readTicks 2 (some .boolean) 1 20 284 284 [ZR 132] σ (zq_pi (fun r τ => zc_T τ ∧ zc_Fr [(1, 2), (4, 11)] σ τ ∧ zd_Own sp σ τ ∧ ((0 ≤ r ∧ r ≤ 1) ∧ (49 ≤ (zt_nx (σ 2) (σ 1 1) (σ 1 2)) ∧ (zt_nx (σ 2) (σ 1 1) (σ 1 2)) ≤ 57 → r = 1 ∧ τ 1 2 = (zt_sk (σ 2) (σ 1 1) (σ 1 2)) + 1) ∧ (¬ (49 ≤ (zt_nx (σ 2) (σ 1 1) (σ 1 2)) ∧ (zt_nx (σ 2) (σ 1 1) (σ 1 2)) ≤ 57) → r = 0 ∧ τ 1 2 = (zt_sk (σ 2) (σ 1 1) (σ 1 2)))) ∧ zq_hid (r = 1 → τ sp 11 = (zt_nx (σ 2) (σ 1 1) (σ 1 2)) - 48))) := by
  refine zq_C_of (by decide) (Nat.le_refl _) (Nat.le_of_ble_eq_true rfl) [some (ZR 132), none] rfl (fun V hV => ?_)
  have hFσ := zc_Fr_rf [(1, 2), (4, 11)] σ
  have hOσ := zd_Own_rf sp σ
  have posp := zc_pos ksp rfl
  show V 0 [some (ZR 132), none] [] 284 σ
  refine zr_aload_n (pc := 0) hV dX4_readTicks_0 rfl rfl ?_
  refine zr_getR (pc := 1) hV 0 1 dX4_readTicks_1 fX4_15 rfl rfl (zc_k132 zc_s132) (zc_pos zc_s132 rfl) (zc_g132_0 hσ zc_s132) (by decide) ?_
  refine zr_callVi (pc := 4) hV [] (st := []) (c_X8_next_2 (σ := σ) hσ) dX4_readTicks_4 mX4_45 (zc_k1 zc_s1) (zc_pos zc_s1 rfl) (by decide) (Nat.le_of_ble_eq_true rfl) (Nat.le_refl _) (fun r4 σ4 hr4 pσ4 => ?_)
  obtain ⟨hσ4, hfσ4, pσ4⟩ := pσ4
  have hFσ4 := zc_Fc hfσ4 rfl hFσ
  have hOσ4 := zd_Oc hfσ4 rfl hOσ
  have t1 := zc_g1_1 hσ zc_s1
  have t2 := zc_g1_2 hσ zc_s1
  have t3 := zc_g1_2 hσ4 zc_s1
  refine zr_istore_n (pc := 7) hV [some (ZR 132), some (ZI r4)] dX4_readTicks_7 rfl (by decide) rfl rfl ?_
  refine zr_iload_n (pc := 8) hV dX4_readTicks_8 rfl rfl ?_
  refine zr_bipush (pc := 9) hV 49 dX4_readTicks_9 (by decide) ?_
  refine zr_icmp_lt (pc := 11) hV 20 dX4_readTicks_11 (by decide) (by omega) ⟨by decide, by decide⟩ (fun c4 => ?_) (fun c4 => ?_)
  · show V 20 [some (ZR 132), some (ZI r4)] [] 284 σ4
    refine zr_iconst (pc := 20) hV 0 dX4_readTicks_20 rfl ?_
    have t5 := zc_g4_11 hσ4 ksp
    have t6 : σ4 sp 11 = σ sp 11 := hfσ4 _ _ (zc_out_at ksp rfl)
    have t7 := zc_g1_2 hσ4 zc_s1
    exact zr_zret (pc := 21) hV dX4_readTicks_21 rfl rfl (by omega) ⟨_, rfl, ⟨by decide, by decide⟩, hσ4, hFσ4, hOσ4, (by omega), (show (0 : Int) = 1 → σ4 sp 11 = (zt_nx (σ 2) (σ 1 1) (σ 1 2)) - 48 from (fun h => absurd h (by omega)))⟩
  · show V 14 [some (ZR 132), some (ZI r4)] [] 284 σ4
    refine zr_iload_n (pc := 14) hV dX4_readTicks_14 rfl rfl ?_
    refine zr_bipush (pc := 15) hV 57 dX4_readTicks_15 (by decide) ?_
    refine zr_icmp_le (pc := 17) hV 22 dX4_readTicks_17 (by decide) (by omega) ⟨by decide, by decide⟩ (fun c8 => ?_) (fun c8 => ?_)
    · show V 22 [some (ZR 132), some (ZI r4)] [] 284 σ4
      have zi := zt_nx_in (t := σ 2) (n := σ 1 1) (a := σ 1 2) (by omega)
      refine zr_aload_n (pc := 22) hV dX4_readTicks_22 rfl rfl ?_
      refine zr_getR (pc := 23) hV 0 1 dX4_readTicks_23 fX4_15 rfl rfl (zc_k132 zc_s132) (zc_pos zc_s132 rfl) (zc_g132_0 hσ4 zc_s132) (by decide) ?_
      refine zr_callVv (pc := 26) hV [] (st := []) (c_X8_pass_2 (σ := σ4) hσ4) dX4_readTicks_26 mX4_92 (zc_k1 zc_s1) (zc_pos zc_s1 rfl) (by decide) (Nat.le_of_ble_eq_true rfl) (Nat.le_refl _) (fun σ26 pσ26 => ?_)
      obtain ⟨hσ26, hfσ26, pσ26⟩ := pσ26
      have hFσ26 := zc_Fc hfσ26 rfl hFσ4
      have hOσ26 := zd_Oc hfσ26 rfl hOσ4
      have t9 := zc_g1_1 hσ4 zc_s1
      have t10 : σ4 1 1 = σ 1 1 := hfσ4 _ _ (zc_out_at zc_s1 rfl)
      have t11 := zc_g1_2 hσ4 zc_s1
      have t12 := zc_g1_2 hσ26 zc_s1
      refine zr_aload_n (pc := 29) hV dX4_readTicks_29 rfl rfl ?_
      refine zr_getR (pc := 30) hV 1 3 dX4_readTicks_30 fX4_19 rfl rfl (zc_k132 zc_s132) (zc_pos zc_s132 rfl) (zc_g132_1 hσ26 zc_s132) (by decide) ?_
      have t13 : σ26 3 5 = σ4 3 5 := hfσ26 _ _ (zc_out_at zc_s3 rfl)
      have t14 : σ4 3 5 = σ 3 5 := hfσ4 _ _ (zc_out_at zc_s3 rfl)
      refine zr_getR (pc := 33) hV 5 sp dX4_readTicks_33 fX4_49 rfl rfl (zc_k3 zc_s3) (zc_pos zc_s3 rfl) (by omega) (zc_pos ksp rfl).1 ?_
      refine zr_iload_n (pc := 36) hV dX4_readTicks_36 rfl rfl ?_
      refine zr_bipush (pc := 37) hV 48 dX4_readTicks_37 (by decide) ?_
      refine zr_isub (pc := 39) hV dX4_readTicks_39 ?_
      refine zr_putI (pc := 40) hV 11 dX4_readTicks_40 fX4_143 rfl rfl rfl (zc_k4 ksp) (zc_pos ksp rfl) (fun σ40 eσ40 => ?_)
      have hσ40 : zc_T σ40 := zc_u4_11 eσ40 hσ26 ksp (by omega)
      have hFσ40 := zc_Fw eσ40 ksp rfl hFσ26
      have hOσ40 := zd_Ow eσ40 (by omega) hOσ26
      refine zr_iconst (pc := 43) hV 1 dX4_readTicks_43 rfl ?_
      have t15 := zc_g4_11 hσ40 ksp
      have t16 : σ40 sp 11 = r4 - 48 := by rw [eσ40]; exact zq_up_same _ _ _ _
      have t17 := zc_g1_2 hσ40 zc_s1
      have t18 : σ40 1 2 = σ26 1 2 := by rw [eσ40]; exact zq_up_ne (zc_dk zc_s1 ksp rfl)
      exact zr_zret (pc := 44) hV dX4_readTicks_44 rfl rfl (by omega) ⟨_, rfl, ⟨by decide, by decide⟩, hσ40, hFσ40, hOσ40, (by omega), (show (1 : Int) = 1 → σ40 sp 11 = (zt_nx (σ 2) (σ 1 1) (σ 1 2)) - 48 from (fun _ => by rw [eσ40, zq_up_same]; omega))⟩
    · show V 20 [some (ZR 132), some (ZI r4)] [] 284 σ4
      refine zr_iconst (pc := 20) hV 0 dX4_readTicks_20 rfl ?_
      have t19 := zc_g4_11 hσ4 ksp
      have t20 : σ4 sp 11 = σ sp 11 := hfσ4 _ _ (zc_out_at ksp rfl)
      have t21 := zc_g1_2 hσ4 zc_s1
      exact zr_zret (pc := 21) hV dX4_readTicks_21 rfl rfl (by omega) ⟨_, rfl, ⟨by decide, by decide⟩, hσ4, hFσ4, hOσ4, (by omega), (show (0 : Int) = 1 → σ4 sp 11 = (zt_nx (σ 2) (σ 1 1) (σ 1 2)) - 48 from (fun h => absurd h (by omega)))⟩
