set_option maxHeartbeats 800000 in
theorem c_X11_init_1 {σ : zq_S} (q0 : ∀ i, σ 0 i = zq_df 11 i) : zq_C zc_w yX11_init cX11_init 1 (none) 5 108 1 284 [ZR 0] σ (zq_pv (fun τ => zc_T τ ∧ zc_U τ ∧ zu_C1 τ)) := by
  refine zq_C_of (by decide) (by decide) (Nat.le_of_ble_eq_true rfl) [some (ZR 0)] rfl (fun V hV => ?_)
  refine zr_aload_n (pc := 0) hV dX11_init_0 rfl rfl ?_
  refine zr_objInit (pc := 1) hV dX11_init_1 lo11 lo_i lo_c (by decide) (by decide) ?_
  refine zr_aload_n (pc := 4) hV dX11_init_4 rfl rfl ?_
  refine zr_new (pc := 5) hV (ci := 8) dX11_init_5 rfl zq_tbX8 tyX8_ok ct8 cX11_7 ci8 cn8 (zc_k1 (rfl : zc_kd 1 = 1)) (by decide) (fun σ5 eσ5 => ?_)
  have eσ5 : σ5 = zq_cell σ 1 (zq_df 8) := eσ5
  show V 8 [some (ZR 0)] [ZR 1, ZR 0] 2 σ5
  refine zr_dup (pc := 8) hV dX11_init_8 (fun _ => rfl) ?_
  refine zr_callN (pc := 9) hV [] (st := [ZR 1, ZR 0]) (c_X8_init_1 (fun i => by rw [eσ5]; exact zq_cell_at _ _ _ _)) dX11_init_9 iX11_9 (by decide) (Nat.le_of_ble_eq_true rfl) (by decide) (fun σ9 qσ9 => ?_)
  obtain ⟨hσ9, fσ9⟩ := qσ9
  show V 12 [some (ZR 0)] [ZR 1, ZR 0] 3 σ9
  refine zr_putR (pc := 12) hV 0 dX11_init_12 fX11_10 rfl (Or.inr ⟨rfl, rfl⟩) rfl (by decide) (zc_k0 (rfl : zc_kd 0 = 0)) ⟨by decide, by decide⟩ (fun σ12 eσ12 => ?_)
  refine zr_aload_n (pc := 15) hV dX11_init_15 rfl rfl ?_
  refine zr_new (pc := 16) hV (ci := 9) dX11_init_16 rfl zq_tbX9 tyX9_ok ct9 cX11_16 ci9 cn9 (zc_k3 (rfl : zc_kd 3 = 3)) (by decide) (fun σ16 eσ16 => ?_)
  have eσ16 : σ16 = zq_cell σ12 3 (zq_df 9) := eσ16
  show V 19 [some (ZR 0)] [ZR 3, ZR 0] 4 σ16
  refine zr_dup (pc := 19) hV dX11_init_19 (fun _ => rfl) ?_
  refine zr_callI (pc := 20) hV [] (st := [ZR 3, ZR 0]) (c_X9_init_3 (fun i => by rw [eσ16]; exact zq_cell_at _ _ _ _)) dX11_init_20 iX11_18 (by decide) (Nat.le_of_ble_eq_true rfl) (by decide) (fun σ20 qσ20 => ?_)
  obtain ⟨hσ20, fσ20⟩ := qσ20
  show V 23 [some (ZR 0)] [ZR 3, ZR 0] 132 σ20
  refine zr_putR (pc := 23) hV 1 dX11_init_23 fX11_19 rfl (Or.inr ⟨rfl, rfl⟩) rfl (by decide) (zc_k0 (rfl : zc_kd 0 = 0)) ⟨by decide, by decide⟩ (fun σ23 eσ23 => ?_)
  refine zr_aload_n (pc := 26) hV dX11_init_26 rfl rfl ?_
  refine zr_new (pc := 27) hV (ci := 4) dX11_init_27 rfl zq_tbX4 tyX4_ok ct4 cX11_23 ci4 cn4 (zc_k132 (rfl : zc_kd 132 = 132)) (by decide) (fun σ27 eσ27 => ?_)
  have eσ27 : σ27 = zq_cell σ23 132 (zq_df 4) := eσ27
  show V 30 [some (ZR 0)] [ZR 132, ZR 0] 133 σ27
  refine zr_dup (pc := 30) hV dX11_init_30 (fun _ => rfl) ?_
  refine zr_aload_n (pc := 31) hV dX11_init_31 rfl rfl ?_
  refine zr_getR (pc := 32) hV 0 1 dX11_init_32 fX11_10 rfl rfl (zc_k0 (rfl : zc_kd 0 = 0)) ⟨by decide, by decide⟩ (by rw [eσ27, zq_cell_no (by omega), eσ23, zq_up_ne (by omega), fσ20 _ _ (by omega), eσ16, zq_cell_no (by omega), eσ12, zq_up_same]) (by decide) ?_
  refine zr_aload_n (pc := 35) hV dX11_init_35 rfl rfl ?_
  refine zr_getR (pc := 36) hV 1 3 dX11_init_36 fX11_19 rfl rfl (zc_k0 (rfl : zc_kd 0 = 0)) ⟨by decide, by decide⟩ (by rw [eσ27, zq_cell_no (by omega), eσ23, zq_up_same]) (by decide) ?_
  refine zr_callI (pc := 39) hV [ZR 1, ZR 3] (st := [ZR 132, ZR 0]) (c_X4_init_132 (fun i => by rw [eσ27]; exact zq_cell_at _ _ _ _)) dX11_init_39 iX11_25 (by decide) (Nat.le_of_ble_eq_true rfl) (by decide) (fun σ39 qσ39 => ?_)
  obtain ⟨hσ39, fσ39⟩ := qσ39
  show V 42 [some (ZR 0)] [ZR 132, ZR 0] 134 σ39
  refine zr_putR (pc := 42) hV 2 dX11_init_42 fX11_28 rfl (Or.inr ⟨rfl, rfl⟩) rfl (by decide) (zc_k0 (rfl : zc_kd 0 = 0)) ⟨by decide, by decide⟩ (fun σ42 eσ42 => ?_)
  refine zr_aload_n (pc := 45) hV dX11_init_45 rfl rfl ?_
  refine zr_new (pc := 46) hV (ci := 2) dX11_init_46 rfl zq_tbX2 tyX2_ok ct2 cX11_32 ci2 cn2 (zc_k134 (rfl : zc_kd 134 = 134)) (by decide) (fun σ46 eσ46 => ?_)
  have eσ46 : σ46 = zq_cell σ42 134 (zq_df 2) := eσ46
  show V 49 [some (ZR 0)] [ZR 134, ZR 0] 135 σ46
  refine zr_dup (pc := 49) hV dX11_init_49 (fun _ => rfl) ?_
  refine zr_callI (pc := 50) hV [] (st := [ZR 134, ZR 0]) (c_X2_init_134 (fun i => by rw [eσ46]; exact zq_cell_at _ _ _ _)) dX11_init_50 iX11_34 (by decide) (Nat.le_of_ble_eq_true rfl) (by decide) (fun σ50 qσ50 => ?_)
  obtain ⟨hσ50, fσ50⟩ := qσ50
  show V 53 [some (ZR 0)] [ZR 134, ZR 0] 139 σ50
  refine zr_putR (pc := 53) hV 3 dX11_init_53 fX11_35 rfl (Or.inr ⟨rfl, rfl⟩) rfl (by decide) (zc_k0 (rfl : zc_kd 0 = 0)) ⟨by decide, by decide⟩ (fun σ53 eσ53 => ?_)
  refine zr_aload_n (pc := 56) hV dX11_init_56 rfl rfl ?_
  refine zr_bipush (pc := 57) hV 64 dX11_init_57 (by decide) ?_
  refine zr_newa (pc := 59) hV 64 dX11_init_59 rfl rfl carr (zc_k139 (rfl : zc_kd 139 = 139)) (by decide) (fun σ59 eσ59 => ?_)
  have eσ59 : σ59 = zq_cell σ53 139 (fun _ => 0) := eσ59
  show V 61 [some (ZR 0)] [ZR 139, ZR 0] 140 σ59
  refine zr_putR (pc := 61) hV 4 dX11_init_61 fX11_39 rfl (Or.inr ⟨rfl, rfl⟩) rfl (by decide) (zc_k0 (rfl : zc_kd 0 = 0)) ⟨by decide, by decide⟩ (fun σ61 eσ61 => ?_)
  refine zr_aload_n (pc := 64) hV dX11_init_64 rfl rfl ?_
  refine zr_new (pc := 65) hV (ci := 6) dX11_init_65 rfl zq_tbX6 tyX6_ok ct6 cX11_43 ci6 cn6 (zc_k140 (rfl : zc_kd 140 = 140)) (by decide) (fun σ65 eσ65 => ?_)
  have eσ65 : σ65 = zq_cell σ61 140 (zq_df 6) := eσ65
  show V 68 [some (ZR 0)] [ZR 140, ZR 0] 141 σ65
  refine zr_dup (pc := 68) hV dX11_init_68 (fun _ => rfl) ?_
  refine zr_aload_n (pc := 69) hV dX11_init_69 rfl rfl ?_
  refine zr_getR (pc := 70) hV 1 3 dX11_init_70 fX11_19 rfl rfl (zc_k0 (rfl : zc_kd 0 = 0)) ⟨by decide, by decide⟩ (by rw [eσ65, zq_cell_no (by omega), eσ61, zq_up_ne (by omega), eσ59, zq_cell_no (by omega), eσ53, zq_up_ne (by omega), fσ50 _ _ (by omega), eσ46, zq_cell_no (by omega), eσ42, zq_up_ne (by omega), fσ39 _ _ (by omega), eσ27, zq_cell_no (by omega), eσ23, zq_up_same]) (by decide) ?_
  refine zr_aload_n (pc := 73) hV dX11_init_73 rfl rfl ?_
  refine zr_getR (pc := 74) hV 4 139 dX11_init_74 fX11_39 rfl rfl (zc_k0 (rfl : zc_kd 0 = 0)) ⟨by decide, by decide⟩ (by rw [eσ65, zq_cell_no (by omega), eσ61, zq_up_same]) (by decide) ?_
  refine zr_callI (pc := 77) hV [ZR 3, ZR 139] (st := [ZR 140, ZR 0]) (c_X6_init_140 (fun i => by rw [eσ65]; exact zq_cell_at _ _ _ _)) dX11_init_77 iX11_45 (by decide) (Nat.le_of_ble_eq_true rfl) (by decide) (fun σ77 qσ77 => ?_)
  obtain ⟨hσ77, fσ77⟩ := qσ77
  show V 80 [some (ZR 0)] [ZR 140, ZR 0] 255 σ77
  refine zr_putR (pc := 80) hV 5 dX11_init_80 fX11_48 rfl (Or.inr ⟨rfl, rfl⟩) rfl (by decide) (zc_k0 (rfl : zc_kd 0 = 0)) ⟨by decide, by decide⟩ (fun σ80 eσ80 => ?_)
  refine zr_aload_n (pc := 83) hV dX11_init_83 rfl rfl ?_
  refine zr_new (pc := 84) hV (ci := 1) dX11_init_84 rfl zq_tbX1 tyX1_ok ct1 cX11_52 ci1 cn1 (zc_k255 (rfl : zc_kd 255 = 255)) (by decide) (fun σ84 eσ84 => ?_)
  have eσ84 : σ84 = zq_cell σ80 255 (zq_df 1) := eσ84
  show V 87 [some (ZR 0)] [ZR 255, ZR 0] 256 σ84
  refine zr_dup (pc := 87) hV dX11_init_87 (fun _ => rfl) ?_
  refine zr_aload_n (pc := 88) hV dX11_init_88 rfl rfl ?_
  refine zr_getR (pc := 89) hV 1 3 dX11_init_89 fX11_19 rfl rfl (zc_k0 (rfl : zc_kd 0 = 0)) ⟨by decide, by decide⟩ (by rw [eσ84, zq_cell_no (by omega), eσ80, zq_up_ne (by omega), fσ77 _ _ (by omega), eσ65, zq_cell_no (by omega), eσ61, zq_up_ne (by omega), eσ59, zq_cell_no (by omega), eσ53, zq_up_ne (by omega), fσ50 _ _ (by omega), eσ46, zq_cell_no (by omega), eσ42, zq_up_ne (by omega), fσ39 _ _ (by omega), eσ27, zq_cell_no (by omega), eσ23, zq_up_same]) (by decide) ?_
  refine zr_callI (pc := 92) hV [ZR 3] (st := [ZR 255, ZR 0]) (c_X1_init_255 (fun i => by rw [eσ84]; exact zq_cell_at _ _ _ _)) dX11_init_92 iX11_54 (by decide) (Nat.le_of_ble_eq_true rfl) (by decide) (fun σ92 qσ92 => ?_)
  obtain ⟨hσ92, fσ92⟩ := qσ92
  show V 95 [some (ZR 0)] [ZR 255, ZR 0] 276 σ92
  refine zr_putR (pc := 95) hV 6 dX11_init_95 fX11_57 rfl (Or.inr ⟨rfl, rfl⟩) rfl (by decide) (zc_k0 (rfl : zc_kd 0 = 0)) ⟨by decide, by decide⟩ (fun σ95 eσ95 => ?_)
  refine zr_aload_n (pc := 98) hV dX11_init_98 rfl rfl ?_
  refine zr_new (pc := 99) hV (ci := 5) dX11_init_99 rfl zq_tbX5 tyX5_ok ct5 cX11_61 ci5 cn5 (zc_k276 (rfl : zc_kd 276 = 276)) (by decide) (fun σ99 eσ99 => ?_)
  have eσ99 : σ99 = zq_cell σ95 276 (zq_df 5) := eσ99
  show V 102 [some (ZR 0)] [ZR 276, ZR 0] 277 σ99
  refine zr_dup (pc := 102) hV dX11_init_102 (fun _ => rfl) ?_
  refine zr_callI (pc := 103) hV [] (st := [ZR 276, ZR 0]) (c_X5_init_276 (fun i => by rw [eσ99]; exact zq_cell_at _ _ _ _)) dX11_init_103 iX11_63 (by decide) (Nat.le_of_ble_eq_true rfl) (by decide) (fun σ103 qσ103 => ?_)
  obtain ⟨hσ103, fσ103⟩ := qσ103
  show V 106 [some (ZR 0)] [ZR 276, ZR 0] 284 σ103
  refine zr_putR (pc := 106) hV 7 dX11_init_106 fX11_64 rfl (Or.inr ⟨rfl, rfl⟩) rfl (by decide) (zc_k0 (rfl : zc_kd 0 = 0)) ⟨by decide, by decide⟩ (fun σ106 eσ106 => ?_)
  refine zr_aload_n (pc := 109) hV dX11_init_109 rfl rfl ?_
  refine zr_bipush (pc := 110) hV 8 dX11_init_110 (by decide) ?_
  refine zr_iconst (pc := 112) hV 2 dX11_init_112 rfl ?_
  refine zr_bipush (pc := 113) hV 8 dX11_init_113 (by decide) ?_
  have HI : ∀ x i, 0 ≤ x → x ≤ 283 → σ106 x i = zc_I x i := by
    intro x i h1 h2
    by_cases s0 : x = 0
    · rw [s0]
      rw [zc_Ie0 (rfl : zc_kd 0 = 0)]
      unfold zc_I0
      by_cases j0 : i = 0
      · rw [if_pos j0, j0, eσ106, zq_up_ne (by omega), fσ103 _ _ (by omega), eσ99, zq_cell_no (by omega), eσ95, zq_up_ne (by omega), fσ92 _ _ (by omega), eσ84, zq_cell_no (by omega), eσ80, zq_up_ne (by omega), fσ77 _ _ (by omega), eσ65, zq_cell_no (by omega), eσ61, zq_up_ne (by omega), eσ59, zq_cell_no (by omega), eσ53, zq_up_ne (by omega), fσ50 _ _ (by omega), eσ46, zq_cell_no (by omega), eσ42, zq_up_ne (by omega), fσ39 _ _ (by omega), eσ27, zq_cell_no (by omega), eσ23, zq_up_ne (by omega), fσ20 _ _ (by omega), eσ16, zq_cell_no (by omega), eσ12, zq_up_same] <;> rfl
      rw [if_neg j0]
      by_cases j1 : i = 1
      · rw [if_pos j1, j1, eσ106, zq_up_ne (by omega), fσ103 _ _ (by omega), eσ99, zq_cell_no (by omega), eσ95, zq_up_ne (by omega), fσ92 _ _ (by omega), eσ84, zq_cell_no (by omega), eσ80, zq_up_ne (by omega), fσ77 _ _ (by omega), eσ65, zq_cell_no (by omega), eσ61, zq_up_ne (by omega), eσ59, zq_cell_no (by omega), eσ53, zq_up_ne (by omega), fσ50 _ _ (by omega), eσ46, zq_cell_no (by omega), eσ42, zq_up_ne (by omega), fσ39 _ _ (by omega), eσ27, zq_cell_no (by omega), eσ23, zq_up_same] <;> rfl
      rw [if_neg j1]
      by_cases j2 : i = 2
      · rw [if_pos j2, j2, eσ106, zq_up_ne (by omega), fσ103 _ _ (by omega), eσ99, zq_cell_no (by omega), eσ95, zq_up_ne (by omega), fσ92 _ _ (by omega), eσ84, zq_cell_no (by omega), eσ80, zq_up_ne (by omega), fσ77 _ _ (by omega), eσ65, zq_cell_no (by omega), eσ61, zq_up_ne (by omega), eσ59, zq_cell_no (by omega), eσ53, zq_up_ne (by omega), fσ50 _ _ (by omega), eσ46, zq_cell_no (by omega), eσ42, zq_up_same] <;> rfl
      rw [if_neg j2]
      by_cases j3 : i = 3
      · rw [if_pos j3, j3, eσ106, zq_up_ne (by omega), fσ103 _ _ (by omega), eσ99, zq_cell_no (by omega), eσ95, zq_up_ne (by omega), fσ92 _ _ (by omega), eσ84, zq_cell_no (by omega), eσ80, zq_up_ne (by omega), fσ77 _ _ (by omega), eσ65, zq_cell_no (by omega), eσ61, zq_up_ne (by omega), eσ59, zq_cell_no (by omega), eσ53, zq_up_same] <;> rfl
      rw [if_neg j3]
      by_cases j4 : i = 4
      · rw [if_pos j4, j4, eσ106, zq_up_ne (by omega), fσ103 _ _ (by omega), eσ99, zq_cell_no (by omega), eσ95, zq_up_ne (by omega), fσ92 _ _ (by omega), eσ84, zq_cell_no (by omega), eσ80, zq_up_ne (by omega), fσ77 _ _ (by omega), eσ65, zq_cell_no (by omega), eσ61, zq_up_same] <;> rfl
      rw [if_neg j4]
      by_cases j5 : i = 5
      · rw [if_pos j5, j5, eσ106, zq_up_ne (by omega), fσ103 _ _ (by omega), eσ99, zq_cell_no (by omega), eσ95, zq_up_ne (by omega), fσ92 _ _ (by omega), eσ84, zq_cell_no (by omega), eσ80, zq_up_same] <;> rfl
      rw [if_neg j5]
      by_cases j6 : i = 6
      · rw [if_pos j6, j6, eσ106, zq_up_ne (by omega), fσ103 _ _ (by omega), eσ99, zq_cell_no (by omega), eσ95, zq_up_same] <;> rfl
      rw [if_neg j6]
      by_cases j7 : i = 7
      · rw [if_pos j7, j7, eσ106, zq_up_same] <;> rfl
      rw [if_neg j7]
      rw [eσ106, zq_up_ne (by omega), fσ103 _ _ (by omega), eσ99, zq_cell_no (by omega), eσ95, zq_up_ne (by omega), fσ92 _ _ (by omega), eσ84, zq_cell_no (by omega), eσ80, zq_up_ne (by omega), fσ77 _ _ (by omega), eσ65, zq_cell_no (by omega), eσ61, zq_up_ne (by omega), eσ59, zq_cell_no (by omega), eσ53, zq_up_ne (by omega), fσ50 _ _ (by omega), eσ46, zq_cell_no (by omega), eσ42, zq_up_ne (by omega), fσ39 _ _ (by omega), eσ27, zq_cell_no (by omega), eσ23, zq_up_ne (by omega), fσ20 _ _ (by omega), eσ16, zq_cell_no (by omega), eσ12, zq_up_ne (by omega), fσ9 _ _ (by omega), eσ5, zq_cell_no (by omega)]
      exact q0 i
    by_cases s1 : 1 ≤ x ∧ x ≤ 2
    · rw [eσ106, zq_up_ne (by omega), fσ103 _ _ (by omega), eσ99, zq_cell_no (by omega), eσ95, zq_up_ne (by omega), fσ92 _ _ (by omega), eσ84, zq_cell_no (by omega), eσ80, zq_up_ne (by omega), fσ77 _ _ (by omega), eσ65, zq_cell_no (by omega), eσ61, zq_up_ne (by omega), eσ59, zq_cell_no (by omega), eσ53, zq_up_ne (by omega), fσ50 _ _ (by omega), eσ46, zq_cell_no (by omega), eσ42, zq_up_ne (by omega), fσ39 _ _ (by omega), eσ27, zq_cell_no (by omega), eσ23, zq_up_ne (by omega), fσ20 _ _ (by omega), eσ16, zq_cell_no (by omega), eσ12, zq_up_ne (by omega)]; exact hσ9 x i (by omega) (by omega)
    by_cases s3 : 3 ≤ x ∧ x ≤ 131
    · rw [eσ106, zq_up_ne (by omega), fσ103 _ _ (by omega), eσ99, zq_cell_no (by omega), eσ95, zq_up_ne (by omega), fσ92 _ _ (by omega), eσ84, zq_cell_no (by omega), eσ80, zq_up_ne (by omega), fσ77 _ _ (by omega), eσ65, zq_cell_no (by omega), eσ61, zq_up_ne (by omega), eσ59, zq_cell_no (by omega), eσ53, zq_up_ne (by omega), fσ50 _ _ (by omega), eσ46, zq_cell_no (by omega), eσ42, zq_up_ne (by omega), fσ39 _ _ (by omega), eσ27, zq_cell_no (by omega), eσ23, zq_up_ne (by omega)]; exact hσ20 x i (by omega) (by omega)
    by_cases s132 : 132 ≤ x ∧ x ≤ 133
    · rw [eσ106, zq_up_ne (by omega), fσ103 _ _ (by omega), eσ99, zq_cell_no (by omega), eσ95, zq_up_ne (by omega), fσ92 _ _ (by omega), eσ84, zq_cell_no (by omega), eσ80, zq_up_ne (by omega), fσ77 _ _ (by omega), eσ65, zq_cell_no (by omega), eσ61, zq_up_ne (by omega), eσ59, zq_cell_no (by omega), eσ53, zq_up_ne (by omega), fσ50 _ _ (by omega), eσ46, zq_cell_no (by omega), eσ42, zq_up_ne (by omega)]; exact hσ39 x i (by omega) (by omega)
    by_cases s134 : 134 ≤ x ∧ x ≤ 138
    · rw [eσ106, zq_up_ne (by omega), fσ103 _ _ (by omega), eσ99, zq_cell_no (by omega), eσ95, zq_up_ne (by omega), fσ92 _ _ (by omega), eσ84, zq_cell_no (by omega), eσ80, zq_up_ne (by omega), fσ77 _ _ (by omega), eσ65, zq_cell_no (by omega), eσ61, zq_up_ne (by omega), eσ59, zq_cell_no (by omega), eσ53, zq_up_ne (by omega)]; exact hσ50 x i (by omega) (by omega)
    by_cases s139 : 139 ≤ x ∧ x ≤ 139
    · rw [show x = 139 by omega]
      rw [zc_Ie139 (rfl : zc_kd 139 = 139)]
      rw [eσ106, zq_up_ne (by omega), fσ103 _ _ (by omega), eσ99, zq_cell_no (by omega), eσ95, zq_up_ne (by omega), fσ92 _ _ (by omega), eσ84, zq_cell_no (by omega), eσ80, zq_up_ne (by omega), fσ77 _ _ (by omega), eσ65, zq_cell_no (by omega), eσ61, zq_up_ne (by omega), eσ59, zq_cell_at]; rfl
    by_cases s140 : 140 ≤ x ∧ x ≤ 254
    · rw [eσ106, zq_up_ne (by omega), fσ103 _ _ (by omega), eσ99, zq_cell_no (by omega), eσ95, zq_up_ne (by omega), fσ92 _ _ (by omega), eσ84, zq_cell_no (by omega), eσ80, zq_up_ne (by omega)]; exact hσ77 x i (by omega) (by omega)
    by_cases s255 : 255 ≤ x ∧ x ≤ 275
    · rw [eσ106, zq_up_ne (by omega), fσ103 _ _ (by omega), eσ99, zq_cell_no (by omega), eσ95, zq_up_ne (by omega)]; exact hσ92 x i (by omega) (by omega)
    by_cases s276 : 276 ≤ x ∧ x ≤ 283
    · rw [eσ106, zq_up_ne (by omega)]; exact hσ103 x i (by omega) (by omega)
    exfalso; omega
  obtain ⟨hσ106, Uσ106⟩ := zc_T_I HI
  refine zr_callVv (pc := 115) hV [ZI 8, ZI 2, ZI 8] (st := []) (c_X11_startAnew_3 (σ := σ106) hσ106 8 2 8 ⟨by decide, by decide⟩ ⟨by decide, by decide⟩ ⟨by decide, by decide⟩ Uσ106) dX11_init_115 mX11_68 (zc_k0 zc_s0) ⟨by decide, by decide⟩ (by decide) (Nat.le_of_ble_eq_true rfl) (Nat.le_refl _) (fun σ115 pσ115 => ?_)
  obtain ⟨hσ115, hfσ115, pσ115, wσ115, Uσ115⟩ := pσ115
  exact zr_vret (pc := 118) hV dX11_init_118 rfl rfl ⟨rfl, hσ115, Uσ115, σ106, HI, hfσ115, pσ115, wσ115⟩
set_option maxHeartbeats 1600000 in
theorem c_X12_init_1 {σ : zq_S} (q0 : ∀ i, σ 0 i = zq_df 12 i) (q1 : zx_Zz σ) : zq_C zx_w yX12_init cX12_init 2 (none) 2 42 1 41 [ZR 0] σ (zq_pv (fun τ => zx_T τ ∧ zx_M τ ∧ zx_O τ ∧ zx_K τ ∧ zx_U τ ∧ zx_TK τ ∧ zx_W τ ∧ zu_R1 τ)) := by
  refine zq_C_of (by decide) (by decide) (Nat.le_of_ble_eq_true rfl) [some (ZR 0), none] rfl (fun V hV => ?_)
  have zσ := q1
  have tσ := zx_Tq_0 q0
  refine zr_aload_n (pc := 0) hV dX12_init_0 rfl rfl ?_
  refine zr_objInit (pc := 1) hV dX12_init_1 lo12 lo_i lo_c (by decide) (by decide) ?_
  refine zr_aload_n (pc := 4) hV dX12_init_4 rfl rfl ?_
  refine zr_bipush (pc := 5) hV 8 dX12_init_5 (by decide) ?_
  refine zr_putI (pc := 7) hV 0 dX12_init_7 fX12_7 rfl rfl rfl rfl ⟨by decide, by decide⟩ (fun σ7 eσ7 => ?_)
  have zσ7 := zx_Zz_put eσ7 zσ
  have tσ7 : zx_Tq σ7 [1, 2, 4, 5, 6, 7, 8, 9, 10, 11, 12, 13, 19, 20, 21, 23, 24, 25, 28, 29, 31, 32, 33, 35, 38, 39, 40, 41, 45, 46, 47, 48, 49, 50, 51, 52, 53, 56, 57, 58, 60, 62, 63, 64] := zx_Tq_put eσ7 (show 2 ≤ (8 : Int) ∧ (8 : Int) ≤ 8 by decide) tσ
  refine zr_aload_n (pc := 10) hV dX12_init_10 rfl rfl ?_
  refine zr_iconst (pc := 11) hV 2 dX12_init_11 rfl ?_
  refine zr_putI (pc := 12) hV 1 dX12_init_12 fX12_13 rfl rfl rfl rfl ⟨by decide, by decide⟩ (fun σ12 eσ12 => ?_)
  have zσ12 := zx_Zz_put eσ12 zσ7
  have tσ12 : zx_Tq σ12 [2, 4, 5, 6, 7, 8, 9, 10, 11, 12, 13, 19, 20, 21, 23, 24, 25, 28, 29, 31, 32, 33, 35, 38, 39, 40, 41, 45, 46, 47, 48, 49, 50, 51, 52, 53, 56, 57, 58, 60, 62, 63, 64] := zx_Tq_put eσ12 (show 1 ≤ (2 : Int) ∧ (2 : Int) ≤ 3 by decide) tσ7
  refine zr_aload_n (pc := 15) hV dX12_init_15 rfl rfl ?_
  refine zr_bipush (pc := 16) hV 8 dX12_init_16 (by decide) ?_
  refine zr_putI (pc := 18) hV 2 dX12_init_18 fX12_16 rfl rfl rfl rfl ⟨by decide, by decide⟩ (fun σ18 eσ18 => ?_)
  have zσ18 := zx_Zz_put eσ18 zσ12
  have tσ18 : zx_Tq σ18 [4, 5, 6, 7, 8, 9, 10, 11, 12, 13, 19, 20, 21, 23, 24, 25, 28, 29, 31, 32, 33, 35, 38, 39, 40, 41, 45, 46, 47, 48, 49, 50, 51, 52, 53, 56, 57, 58, 60, 62, 63, 64] := zx_Tq_put eσ18 (show 6 ≤ (8 : Int) ∧ (8 : Int) ≤ 12 by decide) tσ12
  refine zr_aload_n (pc := 21) hV dX12_init_21 rfl rfl ?_
  refine zr_bipush (pc := 22) hV 21 dX12_init_22 (by decide) ?_
  refine zr_newa (pc := 24) hV 21 dX12_init_24 rfl rfl carr rfl (by decide) (fun σ24 eσ24 => ?_)
  have eσ24 : σ24 = zq_cell σ18 1 (fun _ => 0) := eσ24
  have zσ24 := zx_Zz_cell eσ24 zσ18
  have tσ24 := zx_Tq_cell eσ24 (by decide) tσ18
  show V 26 [some (ZR 0), none] [ZR 1, ZR 0] 2 σ24
  refine zr_putR (pc := 26) hV 4 dX12_init_26 fX12_19 rfl (Or.inr ⟨rfl, rfl⟩) rfl (by decide) rfl ⟨by decide, by decide⟩ (fun σ26 eσ26 => ?_)
  have zσ26 := zx_Zz_put eσ26 zσ24
  have tσ26 : zx_Tq σ26 [5, 6, 7, 8, 9, 10, 11, 12, 13, 19, 20, 21, 23, 24, 25, 28, 29, 31, 32, 33, 35, 38, 39, 40, 41, 45, 46, 47, 48, 49, 50, 51, 52, 53, 56, 57, 58, 60, 62, 63, 64] := zx_Tq_put eσ26 (show (1 : Int) = 1 from rfl) tσ24
  refine zr_aload_n (pc := 29) hV dX12_init_29 rfl rfl ?_
  refine zr_sipush (pc := 30) hV 252 dX12_init_30 (by decide) ?_
  refine zr_newa (pc := 33) hV 252 dX12_init_33 rfl rfl carr rfl (by decide) (fun σ33 eσ33 => ?_)
  have eσ33 : σ33 = zq_cell σ26 2 (fun _ => 0) := eσ33
  have zσ33 := zx_Zz_cell eσ33 zσ26
  have tσ33 := zx_Tq_cell eσ33 (by decide) tσ26
  show V 35 [some (ZR 0), none] [ZR 2, ZR 0] 3 σ33
  refine zr_putR (pc := 35) hV 5 dX12_init_35 fX12_23 rfl (Or.inr ⟨rfl, rfl⟩) rfl (by decide) rfl ⟨by decide, by decide⟩ (fun σ35 eσ35 => ?_)
  have zσ35 := zx_Zz_put eσ35 zσ33
  have tσ35 : zx_Tq σ35 [6, 7, 8, 9, 10, 11, 12, 13, 19, 20, 21, 23, 24, 25, 28, 29, 31, 32, 33, 35, 38, 39, 40, 41, 45, 46, 47, 48, 49, 50, 51, 52, 53, 56, 57, 58, 60, 62, 63, 64] := zx_Tq_put eσ35 (show (2 : Int) = 2 from rfl) tσ33
  refine zr_aload_n (pc := 38) hV dX12_init_38 rfl rfl ?_
  refine zr_bipush (pc := 39) hV 21 dX12_init_39 (by decide) ?_
  refine zr_newa (pc := 41) hV 21 dX12_init_41 rfl rfl carr rfl (by decide) (fun σ41 eσ41 => ?_)
  have eσ41 : σ41 = zq_cell σ35 3 (fun _ => 0) := eσ41
  have zσ41 := zx_Zz_cell eσ41 zσ35
  have tσ41 := zx_Tq_cell eσ41 (by decide) tσ35
  show V 43 [some (ZR 0), none] [ZR 3, ZR 0] 4 σ41
  refine zr_putR (pc := 43) hV 6 dX12_init_43 fX12_26 rfl (Or.inr ⟨rfl, rfl⟩) rfl (by decide) rfl ⟨by decide, by decide⟩ (fun σ43 eσ43 => ?_)
  have zσ43 := zx_Zz_put eσ43 zσ41
  have tσ43 : zx_Tq σ43 [7, 8, 9, 10, 11, 12, 13, 19, 20, 21, 23, 24, 25, 28, 29, 31, 32, 33, 35, 38, 39, 40, 41, 45, 46, 47, 48, 49, 50, 51, 52, 53, 56, 57, 58, 60, 62, 63, 64] := zx_Tq_put eσ43 (show (3 : Int) = 3 from rfl) tσ41
  refine zr_aload_n (pc := 46) hV dX12_init_46 rfl rfl ?_
  refine zr_bipush (pc := 47) hV 21 dX12_init_47 (by decide) ?_
  refine zr_newa (pc := 49) hV 21 dX12_init_49 rfl rfl carr rfl (by decide) (fun σ49 eσ49 => ?_)
  have eσ49 : σ49 = zq_cell σ43 4 (fun _ => 0) := eσ49
  have zσ49 := zx_Zz_cell eσ49 zσ43
  have tσ49 := zx_Tq_cell eσ49 (by decide) tσ43
  show V 51 [some (ZR 0), none] [ZR 4, ZR 0] 5 σ49
  refine zr_putR (pc := 51) hV 7 dX12_init_51 fX12_29 rfl (Or.inr ⟨rfl, rfl⟩) rfl (by decide) rfl ⟨by decide, by decide⟩ (fun σ51 eσ51 => ?_)
  have zσ51 := zx_Zz_put eσ51 zσ49
  have tσ51 : zx_Tq σ51 [8, 9, 10, 11, 12, 13, 19, 20, 21, 23, 24, 25, 28, 29, 31, 32, 33, 35, 38, 39, 40, 41, 45, 46, 47, 48, 49, 50, 51, 52, 53, 56, 57, 58, 60, 62, 63, 64] := zx_Tq_put eσ51 (show (4 : Int) = 4 from rfl) tσ49
  refine zr_aload_n (pc := 54) hV dX12_init_54 rfl rfl ?_
  refine zr_bipush (pc := 55) hV 21 dX12_init_55 (by decide) ?_
  refine zr_newa (pc := 57) hV 21 dX12_init_57 rfl rfl carr rfl (by decide) (fun σ57 eσ57 => ?_)
  have eσ57 : σ57 = zq_cell σ51 5 (fun _ => 0) := eσ57
  have zσ57 := zx_Zz_cell eσ57 zσ51
  have tσ57 := zx_Tq_cell eσ57 (by decide) tσ51
  show V 59 [some (ZR 0), none] [ZR 5, ZR 0] 6 σ57
  refine zr_putR (pc := 59) hV 8 dX12_init_59 fX12_32 rfl (Or.inr ⟨rfl, rfl⟩) rfl (by decide) rfl ⟨by decide, by decide⟩ (fun σ59 eσ59 => ?_)
  have zσ59 := zx_Zz_put eσ59 zσ57
  have tσ59 : zx_Tq σ59 [9, 10, 11, 12, 13, 19, 20, 21, 23, 24, 25, 28, 29, 31, 32, 33, 35, 38, 39, 40, 41, 45, 46, 47, 48, 49, 50, 51, 52, 53, 56, 57, 58, 60, 62, 63, 64] := zx_Tq_put eσ59 (show (5 : Int) = 5 from rfl) tσ57
  refine zr_aload_n (pc := 62) hV dX12_init_62 rfl rfl ?_
  refine zr_sipush (pc := 63) hV 378 dX12_init_63 (by decide) ?_
  refine zr_newa (pc := 66) hV 378 dX12_init_66 rfl rfl carr rfl (by decide) (fun σ66 eσ66 => ?_)
  have eσ66 : σ66 = zq_cell σ59 6 (fun _ => 0) := eσ66
  have zσ66 := zx_Zz_cell eσ66 zσ59
  have tσ66 := zx_Tq_cell eσ66 (by decide) tσ59
  show V 68 [some (ZR 0), none] [ZR 6, ZR 0] 7 σ66
  refine zr_putR (pc := 68) hV 9 dX12_init_68 fX12_35 rfl (Or.inr ⟨rfl, rfl⟩) rfl (by decide) rfl ⟨by decide, by decide⟩ (fun σ68 eσ68 => ?_)
  have zσ68 := zx_Zz_put eσ68 zσ66
  have tσ68 : zx_Tq σ68 [10, 11, 12, 13, 19, 20, 21, 23, 24, 25, 28, 29, 31, 32, 33, 35, 38, 39, 40, 41, 45, 46, 47, 48, 49, 50, 51, 52, 53, 56, 57, 58, 60, 62, 63, 64] := zx_Tq_put eσ68 (show (6 : Int) = 6 from rfl) tσ66
  refine zr_aload_n (pc := 71) hV dX12_init_71 rfl rfl ?_
  refine zr_bipush (pc := 72) hV 21 dX12_init_72 (by decide) ?_
  refine zr_newa (pc := 74) hV 21 dX12_init_74 rfl rfl carr rfl (by decide) (fun σ74 eσ74 => ?_)
  have eσ74 : σ74 = zq_cell σ68 7 (fun _ => 0) := eσ74
  have zσ74 := zx_Zz_cell eσ74 zσ68
  have tσ74 := zx_Tq_cell eσ74 (by decide) tσ68
  show V 76 [some (ZR 0), none] [ZR 7, ZR 0] 8 σ74
  refine zr_putR (pc := 76) hV 10 dX12_init_76 fX12_38 rfl (Or.inr ⟨rfl, rfl⟩) rfl (by decide) rfl ⟨by decide, by decide⟩ (fun σ76 eσ76 => ?_)
  have zσ76 := zx_Zz_put eσ76 zσ74
  have tσ76 : zx_Tq σ76 [11, 12, 13, 19, 20, 21, 23, 24, 25, 28, 29, 31, 32, 33, 35, 38, 39, 40, 41, 45, 46, 47, 48, 49, 50, 51, 52, 53, 56, 57, 58, 60, 62, 63, 64] := zx_Tq_put eσ76 (show (7 : Int) = 7 from rfl) tσ74
  refine zr_aload_n (pc := 79) hV dX12_init_79 rfl rfl ?_
  refine zr_bipush (pc := 80) hV 21 dX12_init_80 (by decide) ?_
  refine zr_newa (pc := 82) hV 21 dX12_init_82 rfl rfl carr rfl (by decide) (fun σ82 eσ82 => ?_)
  have eσ82 : σ82 = zq_cell σ76 8 (fun _ => 0) := eσ82
  have zσ82 := zx_Zz_cell eσ82 zσ76
  have tσ82 := zx_Tq_cell eσ82 (by decide) tσ76
  show V 84 [some (ZR 0), none] [ZR 8, ZR 0] 9 σ82
  refine zr_putR (pc := 84) hV 11 dX12_init_84 fX12_41 rfl (Or.inr ⟨rfl, rfl⟩) rfl (by decide) rfl ⟨by decide, by decide⟩ (fun σ84 eσ84 => ?_)
  have zσ84 := zx_Zz_put eσ84 zσ82
  have tσ84 : zx_Tq σ84 [12, 13, 19, 20, 21, 23, 24, 25, 28, 29, 31, 32, 33, 35, 38, 39, 40, 41, 45, 46, 47, 48, 49, 50, 51, 52, 53, 56, 57, 58, 60, 62, 63, 64] := zx_Tq_put eσ84 (show (8 : Int) = 8 from rfl) tσ82
  refine zr_aload_n (pc := 87) hV dX12_init_87 rfl rfl ?_
  refine zr_bipush (pc := 88) hV 21 dX12_init_88 (by decide) ?_
  refine zr_newa (pc := 90) hV 21 dX12_init_90 rfl rfl carr rfl (by decide) (fun σ90 eσ90 => ?_)
  have eσ90 : σ90 = zq_cell σ84 9 (fun _ => 0) := eσ90
  have zσ90 := zx_Zz_cell eσ90 zσ84
  have tσ90 := zx_Tq_cell eσ90 (by decide) tσ84
  show V 92 [some (ZR 0), none] [ZR 9, ZR 0] 10 σ90
  refine zr_putR (pc := 92) hV 12 dX12_init_92 fX12_44 rfl (Or.inr ⟨rfl, rfl⟩) rfl (by decide) rfl ⟨by decide, by decide⟩ (fun σ92 eσ92 => ?_)
  have zσ92 := zx_Zz_put eσ92 zσ90
  have tσ92 : zx_Tq σ92 [13, 19, 20, 21, 23, 24, 25, 28, 29, 31, 32, 33, 35, 38, 39, 40, 41, 45, 46, 47, 48, 49, 50, 51, 52, 53, 56, 57, 58, 60, 62, 63, 64] := zx_Tq_put eσ92 (show (9 : Int) = 9 from rfl) tσ90
  refine zr_aload_n (pc := 95) hV dX12_init_95 rfl rfl ?_
  refine zr_bipush (pc := 96) hV 80 dX12_init_96 (by decide) ?_
  refine zr_newa (pc := 98) hV 80 dX12_init_98 rfl rfl carr rfl (by decide) (fun σ98 eσ98 => ?_)
  have eσ98 : σ98 = zq_cell σ92 10 (fun _ => 0) := eσ98
  have zσ98 := zx_Zz_cell eσ98 zσ92
  have tσ98 := zx_Tq_cell eσ98 (by decide) tσ92
  show V 100 [some (ZR 0), none] [ZR 10, ZR 0] 11 σ98
  refine zr_putR (pc := 100) hV 13 dX12_init_100 fX12_47 rfl (Or.inr ⟨rfl, rfl⟩) rfl (by decide) rfl ⟨by decide, by decide⟩ (fun σ100 eσ100 => ?_)
  have zσ100 := zx_Zz_put eσ100 zσ98
  have tσ100 : zx_Tq σ100 [19, 20, 21, 23, 24, 25, 28, 29, 31, 32, 33, 35, 38, 39, 40, 41, 45, 46, 47, 48, 49, 50, 51, 52, 53, 56, 57, 58, 60, 62, 63, 64] := zx_Tq_put eσ100 (show (10 : Int) = 10 from rfl) tσ98
  refine zr_aload_n (pc := 103) hV dX12_init_103 rfl rfl ?_
  refine zr_bipush (pc := 104) hV 9 dX12_init_104 (by decide) ?_
  refine zr_newa (pc := 106) hV 9 dX12_init_106 rfl rfl carr rfl (by decide) (fun σ106 eσ106 => ?_)
  have eσ106 : σ106 = zq_cell σ100 11 (fun _ => 0) := eσ106
  have zσ106 := zx_Zz_cell eσ106 zσ100
  have tσ106 := zx_Tq_cell eσ106 (by decide) tσ100
  show V 108 [some (ZR 0), none] [ZR 11, ZR 0] 12 σ106
  refine zr_putR (pc := 108) hV 19 dX12_init_108 fX12_50 rfl (Or.inr ⟨rfl, rfl⟩) rfl (by decide) rfl ⟨by decide, by decide⟩ (fun σ108 eσ108 => ?_)
  have zσ108 := zx_Zz_put eσ108 zσ106
  have tσ108 : zx_Tq σ108 [20, 21, 23, 24, 25, 28, 29, 31, 32, 33, 35, 38, 39, 40, 41, 45, 46, 47, 48, 49, 50, 51, 52, 53, 56, 57, 58, 60, 62, 63, 64] := zx_Tq_put eσ108 (show (11 : Int) = 11 from rfl) tσ106
  refine zr_aload_n (pc := 111) hV dX12_init_111 rfl rfl ?_
  refine zr_bipush (pc := 112) hV 9 dX12_init_112 (by decide) ?_
  refine zr_newa (pc := 114) hV 9 dX12_init_114 rfl rfl carr rfl (by decide) (fun σ114 eσ114 => ?_)
  have eσ114 : σ114 = zq_cell σ108 12 (fun _ => 0) := eσ114
  have zσ114 := zx_Zz_cell eσ114 zσ108
  have tσ114 := zx_Tq_cell eσ114 (by decide) tσ108
  show V 116 [some (ZR 0), none] [ZR 12, ZR 0] 13 σ114
  refine zr_putR (pc := 116) hV 20 dX12_init_116 fX12_53 rfl (Or.inr ⟨rfl, rfl⟩) rfl (by decide) rfl ⟨by decide, by decide⟩ (fun σ116 eσ116 => ?_)
  have zσ116 := zx_Zz_put eσ116 zσ114
  have tσ116 : zx_Tq σ116 [21, 23, 24, 25, 28, 29, 31, 32, 33, 35, 38, 39, 40, 41, 45, 46, 47, 48, 49, 50, 51, 52, 53, 56, 57, 58, 60, 62, 63, 64] := zx_Tq_put eσ116 (show (12 : Int) = 12 from rfl) tσ114
  refine zr_aload_n (pc := 119) hV dX12_init_119 rfl rfl ?_
  refine zr_bipush (pc := 120) hV 9 dX12_init_120 (by decide) ?_
  refine zr_newa (pc := 122) hV 9 dX12_init_122 rfl rfl carr rfl (by decide) (fun σ122 eσ122 => ?_)
  have eσ122 : σ122 = zq_cell σ116 13 (fun _ => 0) := eσ122
  have zσ122 := zx_Zz_cell eσ122 zσ116
  have tσ122 := zx_Tq_cell eσ122 (by decide) tσ116
  show V 124 [some (ZR 0), none] [ZR 13, ZR 0] 14 σ122
  refine zr_putR (pc := 124) hV 21 dX12_init_124 fX12_56 rfl (Or.inr ⟨rfl, rfl⟩) rfl (by decide) rfl ⟨by decide, by decide⟩ (fun σ124 eσ124 => ?_)
  have zσ124 := zx_Zz_put eσ124 zσ122
  have tσ124 : zx_Tq σ124 [23, 24, 25, 28, 29, 31, 32, 33, 35, 38, 39, 40, 41, 45, 46, 47, 48, 49, 50, 51, 52, 53, 56, 57, 58, 60, 62, 63, 64] := zx_Tq_put eσ124 (show (13 : Int) = 13 from rfl) tσ122
  refine zr_aload_n (pc := 127) hV dX12_init_127 rfl rfl ?_
  refine zr_bipush (pc := 128) hV 64 dX12_init_128 (by decide) ?_
  refine zr_newa (pc := 130) hV 64 dX12_init_130 rfl rfl carr rfl (by decide) (fun σ130 eσ130 => ?_)
  have eσ130 : σ130 = zq_cell σ124 14 (fun _ => 0) := eσ130
  have zσ130 := zx_Zz_cell eσ130 zσ124
  have tσ130 := zx_Tq_cell eσ130 (by decide) tσ124
  show V 132 [some (ZR 0), none] [ZR 14, ZR 0] 15 σ130
  refine zr_putR (pc := 132) hV 23 dX12_init_132 fX12_59 rfl (Or.inr ⟨rfl, rfl⟩) rfl (by decide) rfl ⟨by decide, by decide⟩ (fun σ132 eσ132 => ?_)
  have zσ132 := zx_Zz_put eσ132 zσ130
  have tσ132 : zx_Tq σ132 [24, 25, 28, 29, 31, 32, 33, 35, 38, 39, 40, 41, 45, 46, 47, 48, 49, 50, 51, 52, 53, 56, 57, 58, 60, 62, 63, 64] := zx_Tq_put eσ132 (show (14 : Int) = 14 from rfl) tσ130
  refine zr_aload_n (pc := 135) hV dX12_init_135 rfl rfl ?_
  refine zr_sipush (pc := 136) hV 336 dX12_init_136 (by decide) ?_
  refine zr_newa (pc := 139) hV 336 dX12_init_139 rfl rfl carr rfl (by decide) (fun σ139 eσ139 => ?_)
  have eσ139 : σ139 = zq_cell σ132 15 (fun _ => 0) := eσ139
  have zσ139 := zx_Zz_cell eσ139 zσ132
  have tσ139 := zx_Tq_cell eσ139 (by decide) tσ132
  show V 141 [some (ZR 0), none] [ZR 15, ZR 0] 16 σ139
  refine zr_putR (pc := 141) hV 24 dX12_init_141 fX12_62 rfl (Or.inr ⟨rfl, rfl⟩) rfl (by decide) rfl ⟨by decide, by decide⟩ (fun σ141 eσ141 => ?_)
  have zσ141 := zx_Zz_put eσ141 zσ139
  have tσ141 : zx_Tq σ141 [25, 28, 29, 31, 32, 33, 35, 38, 39, 40, 41, 45, 46, 47, 48, 49, 50, 51, 52, 53, 56, 57, 58, 60, 62, 63, 64] := zx_Tq_put eσ141 (show (15 : Int) = 15 from rfl) tσ139
  refine zr_aload_n (pc := 144) hV dX12_init_144 rfl rfl ?_
  refine zr_ldc (pc := 145) (v := 33600) hV 33600 dX12_init_145 kX12_65 (by decide) ?_
  refine zr_newa (pc := 147) hV 33600 dX12_init_147 rfl rfl carr rfl (by decide) (fun σ147 eσ147 => ?_)
  have eσ147 : σ147 = zq_cell σ141 16 (fun _ => 0) := eσ147
  have zσ147 := zx_Zz_cell eσ147 zσ141
  have tσ147 := zx_Tq_cell eσ147 (by decide) tσ141
  show V 149 [some (ZR 0), none] [ZR 16, ZR 0] 17 σ147
  refine zr_putR (pc := 149) hV 25 dX12_init_149 fX12_66 rfl (Or.inr ⟨rfl, rfl⟩) rfl (by decide) rfl ⟨by decide, by decide⟩ (fun σ149 eσ149 => ?_)
  have zσ149 := zx_Zz_put eσ149 zσ147
  have tσ149 : zx_Tq σ149 [28, 29, 31, 32, 33, 35, 38, 39, 40, 41, 45, 46, 47, 48, 49, 50, 51, 52, 53, 56, 57, 58, 60, 62, 63, 64] := zx_Tq_put eσ149 (show (16 : Int) = 16 from rfl) tσ147
  refine zr_aload_n (pc := 152) hV dX12_init_152 rfl rfl ?_
  refine zr_sipush (pc := 153) hV 336 dX12_init_153 (by decide) ?_
  refine zr_newa (pc := 156) hV 336 dX12_init_156 rfl rfl carr rfl (by decide) (fun σ156 eσ156 => ?_)
  have eσ156 : σ156 = zq_cell σ149 17 (fun _ => 0) := eσ156
  have zσ156 := zx_Zz_cell eσ156 zσ149
  have tσ156 := zx_Tq_cell eσ156 (by decide) tσ149
  show V 158 [some (ZR 0), none] [ZR 17, ZR 0] 18 σ156
  refine zr_putR (pc := 158) hV 28 dX12_init_158 fX12_69 rfl (Or.inr ⟨rfl, rfl⟩) rfl (by decide) rfl ⟨by decide, by decide⟩ (fun σ158 eσ158 => ?_)
  have zσ158 := zx_Zz_put eσ158 zσ156
  have tσ158 : zx_Tq σ158 [29, 31, 32, 33, 35, 38, 39, 40, 41, 45, 46, 47, 48, 49, 50, 51, 52, 53, 56, 57, 58, 60, 62, 63, 64] := zx_Tq_put eσ158 (show (17 : Int) = 17 from rfl) tσ156
  refine zr_aload_n (pc := 161) hV dX12_init_161 rfl rfl ?_
  refine zr_iconst (pc := 162) hV 2 dX12_init_162 rfl ?_
  refine zr_putI (pc := 163) hV 29 dX12_init_163 fX12_72 rfl rfl rfl rfl ⟨by decide, by decide⟩ (fun σ163 eσ163 => ?_)
  have zσ163 := zx_Zz_put eσ163 zσ158
  have tσ163 : zx_Tq σ163 [31, 32, 33, 35, 38, 39, 40, 41, 45, 46, 47, 48, 49, 50, 51, 52, 53, 56, 57, 58, 60, 62, 63, 64] := zx_Tq_put eσ163 (show zq_in 2 by decide) tσ158
  refine zr_aload_n (pc := 166) hV dX12_init_166 rfl rfl ?_
  refine zr_sipush (pc := 167) hV 4096 dX12_init_167 (by decide) ?_
  refine zr_newa (pc := 170) hV 4096 dX12_init_170 rfl rfl carr rfl (by decide) (fun σ170 eσ170 => ?_)
  have eσ170 : σ170 = zq_cell σ163 18 (fun _ => 0) := eσ170
  have zσ170 := zx_Zz_cell eσ170 zσ163
  have tσ170 := zx_Tq_cell eσ170 (by decide) tσ163
  show V 172 [some (ZR 0), none] [ZR 18, ZR 0] 19 σ170
  refine zr_putR (pc := 172) hV 31 dX12_init_172 fX12_75 rfl (Or.inr ⟨rfl, rfl⟩) rfl (by decide) rfl ⟨by decide, by decide⟩ (fun σ172 eσ172 => ?_)
  have zσ172 := zx_Zz_put eσ172 zσ170
  have tσ172 : zx_Tq σ172 [32, 33, 35, 38, 39, 40, 41, 45, 46, 47, 48, 49, 50, 51, 52, 53, 56, 57, 58, 60, 62, 63, 64] := zx_Tq_put eσ172 (show (18 : Int) = 18 from rfl) tσ170
  refine zr_aload_n (pc := 175) hV dX12_init_175 rfl rfl ?_
  refine zr_iconst (pc := 176) hV 4 dX12_init_176 rfl ?_
  refine zr_newa (pc := 177) hV 4 dX12_init_177 rfl rfl carr rfl (by decide) (fun σ177 eσ177 => ?_)
  have eσ177 : σ177 = zq_cell σ172 19 (fun _ => 0) := eσ177
  have zσ177 := zx_Zz_cell eσ177 zσ172
  have tσ177 := zx_Tq_cell eσ177 (by decide) tσ172
  show V 179 [some (ZR 0), none] [ZR 19, ZR 0] 20 σ177
  refine zr_putR (pc := 179) hV 32 dX12_init_179 fX12_78 rfl (Or.inr ⟨rfl, rfl⟩) rfl (by decide) rfl ⟨by decide, by decide⟩ (fun σ179 eσ179 => ?_)
  have zσ179 := zx_Zz_put eσ179 zσ177
  have tσ179 : zx_Tq σ179 [33, 35, 38, 39, 40, 41, 45, 46, 47, 48, 49, 50, 51, 52, 53, 56, 57, 58, 60, 62, 63, 64] := zx_Tq_put eσ179 (show (19 : Int) = 19 from rfl) tσ177
  refine zr_aload_n (pc := 182) hV dX12_init_182 rfl rfl ?_
  refine zr_bipush (pc := 183) hV 24 dX12_init_183 (by decide) ?_
  refine zr_newa (pc := 185) hV 24 dX12_init_185 rfl rfl carr rfl (by decide) (fun σ185 eσ185 => ?_)
  have eσ185 : σ185 = zq_cell σ179 20 (fun _ => 0) := eσ185
  have zσ185 := zx_Zz_cell eσ185 zσ179
  have tσ185 := zx_Tq_cell eσ185 (by decide) tσ179
  show V 187 [some (ZR 0), none] [ZR 20, ZR 0] 21 σ185
  refine zr_putR (pc := 187) hV 33 dX12_init_187 fX12_81 rfl (Or.inr ⟨rfl, rfl⟩) rfl (by decide) rfl ⟨by decide, by decide⟩ (fun σ187 eσ187 => ?_)
  have zσ187 := zx_Zz_put eσ187 zσ185
  have tσ187 : zx_Tq σ187 [35, 38, 39, 40, 41, 45, 46, 47, 48, 49, 50, 51, 52, 53, 56, 57, 58, 60, 62, 63, 64] := zx_Tq_put eσ187 (show (20 : Int) = 20 from rfl) tσ185
  refine zr_aload_n (pc := 190) hV dX12_init_190 rfl rfl ?_
  refine zr_iconst (pc := 191) hV 1 dX12_init_191 rfl ?_
  refine zr_putI (pc := 192) hV 35 dX12_init_192 fX12_84 rfl rfl rfl rfl ⟨by decide, by decide⟩ (fun σ192 eσ192 => ?_)
  have zσ192 := zx_Zz_put eσ192 zσ187
  have tσ192 : zx_Tq σ192 [38, 39, 40, 41, 45, 46, 47, 48, 49, 50, 51, 52, 53, 56, 57, 58, 60, 62, 63, 64] := zx_Tq_put eσ192 (show 1 ≤ (1 : Int) ∧ (1 : Int) ≤ 8 by decide) tσ187
  refine zr_aload_n (pc := 195) hV dX12_init_195 rfl rfl ?_
  refine zr_bipush (pc := 196) hV 40 dX12_init_196 (by decide) ?_
  refine zr_newa (pc := 198) hV 40 dX12_init_198 rfl rfl carr rfl (by decide) (fun σ198 eσ198 => ?_)
  have eσ198 : σ198 = zq_cell σ192 21 (fun _ => 0) := eσ198
  have zσ198 := zx_Zz_cell eσ198 zσ192
  have tσ198 := zx_Tq_cell eσ198 (by decide) tσ192
  show V 200 [some (ZR 0), none] [ZR 21, ZR 0] 22 σ198
  refine zr_putR (pc := 200) hV 38 dX12_init_200 fX12_87 rfl (Or.inr ⟨rfl, rfl⟩) rfl (by decide) rfl ⟨by decide, by decide⟩ (fun σ200 eσ200 => ?_)
  have zσ200 := zx_Zz_put eσ200 zσ198
  have tσ200 : zx_Tq σ200 [39, 40, 41, 45, 46, 47, 48, 49, 50, 51, 52, 53, 56, 57, 58, 60, 62, 63, 64] := zx_Tq_put eσ200 (show (21 : Int) = 21 from rfl) tσ198
  refine zr_aload_n (pc := 203) hV dX12_init_203 rfl rfl ?_
  refine zr_bipush (pc := 204) hV 40 dX12_init_204 (by decide) ?_
  refine zr_newa (pc := 206) hV 40 dX12_init_206 rfl rfl carr rfl (by decide) (fun σ206 eσ206 => ?_)
  have eσ206 : σ206 = zq_cell σ200 22 (fun _ => 0) := eσ206
  have zσ206 := zx_Zz_cell eσ206 zσ200
  have tσ206 := zx_Tq_cell eσ206 (by decide) tσ200
  show V 208 [some (ZR 0), none] [ZR 22, ZR 0] 23 σ206
  refine zr_putR (pc := 208) hV 39 dX12_init_208 fX12_90 rfl (Or.inr ⟨rfl, rfl⟩) rfl (by decide) rfl ⟨by decide, by decide⟩ (fun σ208 eσ208 => ?_)
  have zσ208 := zx_Zz_put eσ208 zσ206
  have tσ208 : zx_Tq σ208 [40, 41, 45, 46, 47, 48, 49, 50, 51, 52, 53, 56, 57, 58, 60, 62, 63, 64] := zx_Tq_put eσ208 (show (22 : Int) = 22 from rfl) tσ206
  refine zr_aload_n (pc := 211) hV dX12_init_211 rfl rfl ?_
  refine zr_bipush (pc := 212) hV 40 dX12_init_212 (by decide) ?_
  refine zr_newa (pc := 214) hV 40 dX12_init_214 rfl rfl carr rfl (by decide) (fun σ214 eσ214 => ?_)
  have eσ214 : σ214 = zq_cell σ208 23 (fun _ => 0) := eσ214
  have zσ214 := zx_Zz_cell eσ214 zσ208
  have tσ214 := zx_Tq_cell eσ214 (by decide) tσ208
  show V 216 [some (ZR 0), none] [ZR 23, ZR 0] 24 σ214
  refine zr_putR (pc := 216) hV 40 dX12_init_216 fX12_93 rfl (Or.inr ⟨rfl, rfl⟩) rfl (by decide) rfl ⟨by decide, by decide⟩ (fun σ216 eσ216 => ?_)
  have zσ216 := zx_Zz_put eσ216 zσ214
  have tσ216 : zx_Tq σ216 [41, 45, 46, 47, 48, 49, 50, 51, 52, 53, 56, 57, 58, 60, 62, 63, 64] := zx_Tq_put eσ216 (show (23 : Int) = 23 from rfl) tσ214
  refine zr_aload_n (pc := 219) hV dX12_init_219 rfl rfl ?_
  refine zr_bipush (pc := 220) hV 40 dX12_init_220 (by decide) ?_
  refine zr_newa (pc := 222) hV 40 dX12_init_222 rfl rfl carr rfl (by decide) (fun σ222 eσ222 => ?_)
  have eσ222 : σ222 = zq_cell σ216 24 (fun _ => 0) := eσ222
  have zσ222 := zx_Zz_cell eσ222 zσ216
  have tσ222 := zx_Tq_cell eσ222 (by decide) tσ216
  show V 224 [some (ZR 0), none] [ZR 24, ZR 0] 25 σ222
  refine zr_putR (pc := 224) hV 41 dX12_init_224 fX12_96 rfl (Or.inr ⟨rfl, rfl⟩) rfl (by decide) rfl ⟨by decide, by decide⟩ (fun σ224 eσ224 => ?_)
  have zσ224 := zx_Zz_put eσ224 zσ222
  have tσ224 : zx_Tq σ224 [45, 46, 47, 48, 49, 50, 51, 52, 53, 56, 57, 58, 60, 62, 63, 64] := zx_Tq_put eσ224 (show (24 : Int) = 24 from rfl) tσ222
  refine zr_aload_n (pc := 227) hV dX12_init_227 rfl rfl ?_
  refine zr_bipush (pc := 228) hV 40 dX12_init_228 (by decide) ?_
  refine zr_newa (pc := 230) hV 40 dX12_init_230 rfl rfl carr rfl (by decide) (fun σ230 eσ230 => ?_)
  have eσ230 : σ230 = zq_cell σ224 25 (fun _ => 0) := eσ230
  have zσ230 := zx_Zz_cell eσ230 zσ224
  have tσ230 := zx_Tq_cell eσ230 (by decide) tσ224
  show V 232 [some (ZR 0), none] [ZR 25, ZR 0] 26 σ230
  refine zr_putR (pc := 232) hV 45 dX12_init_232 fX12_99 rfl (Or.inr ⟨rfl, rfl⟩) rfl (by decide) rfl ⟨by decide, by decide⟩ (fun σ232 eσ232 => ?_)
  have zσ232 := zx_Zz_put eσ232 zσ230
  have tσ232 : zx_Tq σ232 [46, 47, 48, 49, 50, 51, 52, 53, 56, 57, 58, 60, 62, 63, 64] := zx_Tq_put eσ232 (show (25 : Int) = 25 from rfl) tσ230
  refine zr_aload_n (pc := 235) hV dX12_init_235 rfl rfl ?_
  refine zr_bipush (pc := 236) hV 40 dX12_init_236 (by decide) ?_
  refine zr_newa (pc := 238) hV 40 dX12_init_238 rfl rfl carr rfl (by decide) (fun σ238 eσ238 => ?_)
  have eσ238 : σ238 = zq_cell σ232 26 (fun _ => 0) := eσ238
  have zσ238 := zx_Zz_cell eσ238 zσ232
  have tσ238 := zx_Tq_cell eσ238 (by decide) tσ232
  show V 240 [some (ZR 0), none] [ZR 26, ZR 0] 27 σ238
  refine zr_putR (pc := 240) hV 46 dX12_init_240 fX12_102 rfl (Or.inr ⟨rfl, rfl⟩) rfl (by decide) rfl ⟨by decide, by decide⟩ (fun σ240 eσ240 => ?_)
  have zσ240 := zx_Zz_put eσ240 zσ238
  have tσ240 : zx_Tq σ240 [47, 48, 49, 50, 51, 52, 53, 56, 57, 58, 60, 62, 63, 64] := zx_Tq_put eσ240 (show (26 : Int) = 26 from rfl) tσ238
  refine zr_aload_n (pc := 243) hV dX12_init_243 rfl rfl ?_
  refine zr_bipush (pc := 244) hV 40 dX12_init_244 (by decide) ?_
  refine zr_newa (pc := 246) hV 40 dX12_init_246 rfl rfl carr rfl (by decide) (fun σ246 eσ246 => ?_)
  have eσ246 : σ246 = zq_cell σ240 27 (fun _ => 0) := eσ246
  have zσ246 := zx_Zz_cell eσ246 zσ240
  have tσ246 := zx_Tq_cell eσ246 (by decide) tσ240
  show V 248 [some (ZR 0), none] [ZR 27, ZR 0] 28 σ246
  refine zr_putR (pc := 248) hV 47 dX12_init_248 fX12_105 rfl (Or.inr ⟨rfl, rfl⟩) rfl (by decide) rfl ⟨by decide, by decide⟩ (fun σ248 eσ248 => ?_)
  have zσ248 := zx_Zz_put eσ248 zσ246
  have tσ248 : zx_Tq σ248 [48, 49, 50, 51, 52, 53, 56, 57, 58, 60, 62, 63, 64] := zx_Tq_put eσ248 (show (27 : Int) = 27 from rfl) tσ246
  refine zr_aload_n (pc := 251) hV dX12_init_251 rfl rfl ?_
  refine zr_bipush (pc := 252) hV 40 dX12_init_252 (by decide) ?_
  refine zr_newa (pc := 254) hV 40 dX12_init_254 rfl rfl carr rfl (by decide) (fun σ254 eσ254 => ?_)
  have eσ254 : σ254 = zq_cell σ248 28 (fun _ => 0) := eσ254
  have zσ254 := zx_Zz_cell eσ254 zσ248
  have tσ254 := zx_Tq_cell eσ254 (by decide) tσ248
  show V 256 [some (ZR 0), none] [ZR 28, ZR 0] 29 σ254
  refine zr_putR (pc := 256) hV 48 dX12_init_256 fX12_108 rfl (Or.inr ⟨rfl, rfl⟩) rfl (by decide) rfl ⟨by decide, by decide⟩ (fun σ256 eσ256 => ?_)
  have zσ256 := zx_Zz_put eσ256 zσ254
  have tσ256 : zx_Tq σ256 [49, 50, 51, 52, 53, 56, 57, 58, 60, 62, 63, 64] := zx_Tq_put eσ256 (show (28 : Int) = 28 from rfl) tσ254
  refine zr_aload_n (pc := 259) hV dX12_init_259 rfl rfl ?_
  refine zr_bipush (pc := 260) hV 7 dX12_init_260 (by decide) ?_
  refine zr_newa (pc := 262) hV 7 dX12_init_262 rfl rfl carr rfl (by decide) (fun σ262 eσ262 => ?_)
  have eσ262 : σ262 = zq_cell σ256 29 (fun _ => 0) := eσ262
  have zσ262 := zx_Zz_cell eσ262 zσ256
  have tσ262 := zx_Tq_cell eσ262 (by decide) tσ256
  show V 264 [some (ZR 0), none] [ZR 29, ZR 0] 30 σ262
  refine zr_putR (pc := 264) hV 49 dX12_init_264 fX12_111 rfl (Or.inr ⟨rfl, rfl⟩) rfl (by decide) rfl ⟨by decide, by decide⟩ (fun σ264 eσ264 => ?_)
  have zσ264 := zx_Zz_put eσ264 zσ262
  have tσ264 : zx_Tq σ264 [50, 51, 52, 53, 56, 57, 58, 60, 62, 63, 64] := zx_Tq_put eσ264 (show (29 : Int) = 29 from rfl) tσ262
  refine zr_aload_n (pc := 267) hV dX12_init_267 rfl rfl ?_
  refine zr_bipush (pc := 268) hV 7 dX12_init_268 (by decide) ?_
  refine zr_newa (pc := 270) hV 7 dX12_init_270 rfl rfl carr rfl (by decide) (fun σ270 eσ270 => ?_)
  have eσ270 : σ270 = zq_cell σ264 30 (fun _ => 0) := eσ270
  have zσ270 := zx_Zz_cell eσ270 zσ264
  have tσ270 := zx_Tq_cell eσ270 (by decide) tσ264
  show V 272 [some (ZR 0), none] [ZR 30, ZR 0] 31 σ270
  refine zr_putR (pc := 272) hV 50 dX12_init_272 fX12_114 rfl (Or.inr ⟨rfl, rfl⟩) rfl (by decide) rfl ⟨by decide, by decide⟩ (fun σ272 eσ272 => ?_)
  have zσ272 := zx_Zz_put eσ272 zσ270
  have tσ272 : zx_Tq σ272 [51, 52, 53, 56, 57, 58, 60, 62, 63, 64] := zx_Tq_put eσ272 (show (30 : Int) = 30 from rfl) tσ270
  refine zr_aload_n (pc := 275) hV dX12_init_275 rfl rfl ?_
  refine zr_bipush (pc := 276) hV 40 dX12_init_276 (by decide) ?_
  refine zr_newa (pc := 278) hV 40 dX12_init_278 rfl rfl carr rfl (by decide) (fun σ278 eσ278 => ?_)
  have eσ278 : σ278 = zq_cell σ272 31 (fun _ => 0) := eσ278
  have zσ278 := zx_Zz_cell eσ278 zσ272
  have tσ278 := zx_Tq_cell eσ278 (by decide) tσ272
  show V 280 [some (ZR 0), none] [ZR 31, ZR 0] 32 σ278
  refine zr_putR (pc := 280) hV 51 dX12_init_280 fX12_117 rfl (Or.inr ⟨rfl, rfl⟩) rfl (by decide) rfl ⟨by decide, by decide⟩ (fun σ280 eσ280 => ?_)
  have zσ280 := zx_Zz_put eσ280 zσ278
  have tσ280 : zx_Tq σ280 [52, 53, 56, 57, 58, 60, 62, 63, 64] := zx_Tq_put eσ280 (show (31 : Int) = 31 from rfl) tσ278
  refine zr_aload_n (pc := 283) hV dX12_init_283 rfl rfl ?_
  refine zr_bipush (pc := 284) hV 40 dX12_init_284 (by decide) ?_
  refine zr_newa (pc := 286) hV 40 dX12_init_286 rfl rfl carr rfl (by decide) (fun σ286 eσ286 => ?_)
  have eσ286 : σ286 = zq_cell σ280 32 (fun _ => 0) := eσ286
  have zσ286 := zx_Zz_cell eσ286 zσ280
  have tσ286 := zx_Tq_cell eσ286 (by decide) tσ280
  show V 288 [some (ZR 0), none] [ZR 32, ZR 0] 33 σ286
  refine zr_putR (pc := 288) hV 52 dX12_init_288 fX12_120 rfl (Or.inr ⟨rfl, rfl⟩) rfl (by decide) rfl ⟨by decide, by decide⟩ (fun σ288 eσ288 => ?_)
  have zσ288 := zx_Zz_put eσ288 zσ286
  have tσ288 : zx_Tq σ288 [53, 56, 57, 58, 60, 62, 63, 64] := zx_Tq_put eσ288 (show (32 : Int) = 32 from rfl) tσ286
  refine zr_aload_n (pc := 291) hV dX12_init_291 rfl rfl ?_
  refine zr_bipush (pc := 292) hV 80 dX12_init_292 (by decide) ?_
  refine zr_newa (pc := 294) hV 80 dX12_init_294 rfl rfl carr rfl (by decide) (fun σ294 eσ294 => ?_)
  have eσ294 : σ294 = zq_cell σ288 33 (fun _ => 0) := eσ294
  have zσ294 := zx_Zz_cell eσ294 zσ288
  have tσ294 := zx_Tq_cell eσ294 (by decide) tσ288
  show V 296 [some (ZR 0), none] [ZR 33, ZR 0] 34 σ294
  refine zr_putR (pc := 296) hV 53 dX12_init_296 fX12_123 rfl (Or.inr ⟨rfl, rfl⟩) rfl (by decide) rfl ⟨by decide, by decide⟩ (fun σ296 eσ296 => ?_)
  have zσ296 := zx_Zz_put eσ296 zσ294
  have tσ296 : zx_Tq σ296 [56, 57, 58, 60, 62, 63, 64] := zx_Tq_put eσ296 (show (33 : Int) = 33 from rfl) tσ294
  refine zr_aload_n (pc := 299) hV dX12_init_299 rfl rfl ?_
  refine zr_bipush (pc := 300) hV 44 dX12_init_300 (by decide) ?_
  refine zr_newa (pc := 302) hV 44 dX12_init_302 rfl rfl carr rfl (by decide) (fun σ302 eσ302 => ?_)
  have eσ302 : σ302 = zq_cell σ296 34 (fun _ => 0) := eσ302
  have zσ302 := zx_Zz_cell eσ302 zσ296
  have tσ302 := zx_Tq_cell eσ302 (by decide) tσ296
  show V 304 [some (ZR 0), none] [ZR 34, ZR 0] 35 σ302
  refine zr_putR (pc := 304) hV 56 dX12_init_304 fX12_126 rfl (Or.inr ⟨rfl, rfl⟩) rfl (by decide) rfl ⟨by decide, by decide⟩ (fun σ304 eσ304 => ?_)
  have zσ304 := zx_Zz_put eσ304 zσ302
  have tσ304 : zx_Tq σ304 [57, 58, 60, 62, 63, 64] := zx_Tq_put eσ304 (show (34 : Int) = 34 from rfl) tσ302
  refine zr_aload_n (pc := 307) hV dX12_init_307 rfl rfl ?_
  refine zr_bipush (pc := 308) hV 44 dX12_init_308 (by decide) ?_
  refine zr_newa (pc := 310) hV 44 dX12_init_310 rfl rfl carr rfl (by decide) (fun σ310 eσ310 => ?_)
  have eσ310 : σ310 = zq_cell σ304 35 (fun _ => 0) := eσ310
  have zσ310 := zx_Zz_cell eσ310 zσ304
  have tσ310 := zx_Tq_cell eσ310 (by decide) tσ304
  show V 312 [some (ZR 0), none] [ZR 35, ZR 0] 36 σ310
  refine zr_putR (pc := 312) hV 57 dX12_init_312 fX12_129 rfl (Or.inr ⟨rfl, rfl⟩) rfl (by decide) rfl ⟨by decide, by decide⟩ (fun σ312 eσ312 => ?_)
  have zσ312 := zx_Zz_put eσ312 zσ310
  have tσ312 : zx_Tq σ312 [58, 60, 62, 63, 64] := zx_Tq_put eσ312 (show (35 : Int) = 35 from rfl) tσ310
  refine zr_aload_n (pc := 315) hV dX12_init_315 rfl rfl ?_
  refine zr_bipush (pc := 316) hV 44 dX12_init_316 (by decide) ?_
  refine zr_newa (pc := 318) hV 44 dX12_init_318 rfl rfl carr rfl (by decide) (fun σ318 eσ318 => ?_)
  have eσ318 : σ318 = zq_cell σ312 36 (fun _ => 0) := eσ318
  have zσ318 := zx_Zz_cell eσ318 zσ312
  have tσ318 := zx_Tq_cell eσ318 (by decide) tσ312
  show V 320 [some (ZR 0), none] [ZR 36, ZR 0] 37 σ318
  refine zr_putR (pc := 320) hV 58 dX12_init_320 fX12_132 rfl (Or.inr ⟨rfl, rfl⟩) rfl (by decide) rfl ⟨by decide, by decide⟩ (fun σ320 eσ320 => ?_)
  have zσ320 := zx_Zz_put eσ320 zσ318
  have tσ320 : zx_Tq σ320 [60, 62, 63, 64] := zx_Tq_put eσ320 (show (36 : Int) = 36 from rfl) tσ318
  refine zr_aload_n (pc := 323) hV dX12_init_323 rfl rfl ?_
  refine zr_bipush (pc := 324) hV 40 dX12_init_324 (by decide) ?_
  refine zr_newa (pc := 326) hV 40 dX12_init_326 rfl rfl carr rfl (by decide) (fun σ326 eσ326 => ?_)
  have eσ326 : σ326 = zq_cell σ320 37 (fun _ => 0) := eσ326
  have zσ326 := zx_Zz_cell eσ326 zσ320
  have tσ326 := zx_Tq_cell eσ326 (by decide) tσ320
  show V 328 [some (ZR 0), none] [ZR 37, ZR 0] 38 σ326
  refine zr_putR (pc := 328) hV 60 dX12_init_328 fX12_135 rfl (Or.inr ⟨rfl, rfl⟩) rfl (by decide) rfl ⟨by decide, by decide⟩ (fun σ328 eσ328 => ?_)
  have zσ328 := zx_Zz_put eσ328 zσ326
  have tσ328 : zx_Tq σ328 [62, 63, 64] := zx_Tq_put eσ328 (show (37 : Int) = 37 from rfl) tσ326
  refine zr_aload_n (pc := 331) hV dX12_init_331 rfl rfl ?_
  refine zr_iconst (pc := 332) hV 4 dX12_init_332 rfl ?_
  refine zr_newa (pc := 333) hV 4 dX12_init_333 rfl rfl carr rfl (by decide) (fun σ333 eσ333 => ?_)
  have eσ333 : σ333 = zq_cell σ328 38 (fun _ => 0) := eσ333
  have zσ333 := zx_Zz_cell eσ333 zσ328
  have tσ333 := zx_Tq_cell eσ333 (by decide) tσ328
  show V 335 [some (ZR 0), none] [ZR 38, ZR 0] 39 σ333
  refine zr_putR (pc := 335) hV 62 dX12_init_335 fX12_138 rfl (Or.inr ⟨rfl, rfl⟩) rfl (by decide) rfl ⟨by decide, by decide⟩ (fun σ335 eσ335 => ?_)
  have zσ335 := zx_Zz_put eσ335 zσ333
  have tσ335 : zx_Tq σ335 [63, 64] := zx_Tq_put eσ335 (show (38 : Int) = 38 from rfl) tσ333
  refine zr_aload_n (pc := 338) hV dX12_init_338 rfl rfl ?_
  refine zr_iconst (pc := 339) hV 4 dX12_init_339 rfl ?_
  refine zr_newa (pc := 340) hV 4 dX12_init_340 rfl rfl carr rfl (by decide) (fun σ340 eσ340 => ?_)
  have eσ340 : σ340 = zq_cell σ335 39 (fun _ => 0) := eσ340
  have zσ340 := zx_Zz_cell eσ340 zσ335
  have tσ340 := zx_Tq_cell eσ340 (by decide) tσ335
  show V 342 [some (ZR 0), none] [ZR 39, ZR 0] 40 σ340
  refine zr_putR (pc := 342) hV 63 dX12_init_342 fX12_141 rfl (Or.inr ⟨rfl, rfl⟩) rfl (by decide) rfl ⟨by decide, by decide⟩ (fun σ342 eσ342 => ?_)
  have zσ342 := zx_Zz_put eσ342 zσ340
  have tσ342 : zx_Tq σ342 [64] := zx_Tq_put eσ342 (show (39 : Int) = 39 from rfl) tσ340
  refine zr_aload_n (pc := 345) hV dX12_init_345 rfl rfl ?_
  refine zr_bipush (pc := 346) hV 120 dX12_init_346 (by decide) ?_
  refine zr_newa (pc := 348) hV 120 dX12_init_348 rfl rfl carr rfl (by decide) (fun σ348 eσ348 => ?_)
  have eσ348 : σ348 = zq_cell σ342 40 (fun _ => 0) := eσ348
  have zσ348 := zx_Zz_cell eσ348 zσ342
  have tσ348 := zx_Tq_cell eσ348 (by decide) tσ342
  show V 350 [some (ZR 0), none] [ZR 40, ZR 0] 41 σ348
  refine zr_putR (pc := 350) hV 64 dX12_init_350 fX12_144 rfl (Or.inr ⟨rfl, rfl⟩) rfl (by decide) rfl ⟨by decide, by decide⟩ (fun σ350 eσ350 => ?_)
  have zσ350 := zx_Zz_put eσ350 zσ348
  have tσ350 : zx_Tq σ350 [] := zx_Tq_put eσ350 (show (40 : Int) = 40 from rfl) tσ348
  have T0 : zx_T σ350 := zx_T_of tσ350 zσ350
  refine zr_iconst (pc := 353) hV 0 dX12_init_353 rfl ?_
  refine zr_istore_n (pc := 354) hV [some (ZR 0), some (ZI 0)] dX12_init_354 rfl (by decide) rfl rfl ?_
  have L355 : ∀ (fuel : Nat) (x : Int) (ρ : zq_S), 0 ≤ x ∧ x ≤ 4 → zx_T ρ → (ρ 0 0 = 8 ∧ ρ 0 1 = 2 ∧ ρ 0 2 = 8 ∧ ρ 0 14 = 0) → (∀ j : Int, 0 ≤ j → j < x → ρ 38 j = -1) → (∀ a j : Int, a ≠ 0 → a ≠ 38 → ρ a j = 0) → 4 - x < (fuel : Int) → V 355 [some (ZR 0), some (ZI x)] [] 41 ρ := by
    intro fuel
    induction fuel with
    | zero => intro x ρ _ _ _ _ _ hm; exfalso; omega
    | succ fuel ih =>
      intro x ρ hx hρ hw hl hs hm
      refine zr_iload_n (pc := 355) hV dX12_init_355 rfl rfl ?_
      refine zr_iconst (pc := 356) hV 4 dX12_init_356 rfl ?_
      refine zr_icmp_ge (pc := 357) hV 373 dX12_init_357 (by decide) (by omega) ⟨by decide, by decide⟩ (fun c => ?_) (fun c => ?_)
      · refine zr_aload_n (pc := 373) hV dX12_init_373 rfl rfl ?_
        refine zr_callVv (pc := 374) hV [] (st := []) (c_X12_restart4 (σ := ρ) hρ) dX12_init_374 mX12_147 rfl (by decide) (by decide) (Nat.le_of_ble_eq_true rfl) (Nat.le_refl _) (fun τ p => ?_)
        obtain ⟨h1, hF, ⟨h2, h3, h4, h5⟩, h6⟩ := p
        have e0 := hF 0 0 (by omega)
        have e1 := hF 0 1 (by omega)
        have e2 := hF 0 2 (by omega)
        have e14 := hF 0 14 (by omega)
        exact zr_vret (pc := 377) hV dX12_init_377 rfl rfl ⟨rfl, h1, h2, h3, h4, zx_U_0 h5.2.2.2.2.1, zx_TK_0 h5.1, zx_W_0 h5.2.2.2.2.2.2, by omega, h6, fun j j0 j3 => by rw [hF 38 j (by omega)]; exact hl j j0 (by omega), fun a j a0 a38 a14 a15 => by rw [hF a j (by omega)]; exact hs a j a0 a38⟩
      · refine zr_aload_n (pc := 360) hV dX12_init_360 rfl rfl ?_
        refine zr_getR (pc := 361) hV 62 38 dX12_init_361 fX12_138 rfl rfl rfl (by decide) (zx_g62 hρ) (by decide) ?_
        refine zr_iload_n (pc := 364) hV dX12_init_364 rfl rfl ?_
        refine zr_iconst (pc := 365) hV (-1) dX12_init_365 rfl ?_
        refine zr_iast (pc := 366) hV dX12_init_366 rfl (by decide) rfl (by omega) (fun τ e => ?_)
        refine zr_iinc (pc := 367) hV [some (ZR 0), some (ZI (x + 1))] (x + 1) dX12_init_367 rfl rfl (by decide) rfl rfl ?_
        refine zr_goto (pc := 370) hV 355 dX12_init_370 (by decide) ?_
        exact ih (x + 1) τ (by omega) (zx_ua38 e hρ ⟨by decide, by decide⟩) (by rw [e, zq_up_ne (by omega), zq_up_ne (by omega), zq_up_ne (by omega), zq_up_ne (by omega)]; exact hw) (fun j j0 j1 => if hc : j = x then (by rw [hc, e, zq_up_same]) else (by rw [e, zq_up_ne (by omega)]; exact hl j j0 (by omega))) (fun a j a0 a38 => by rw [e, zq_up_ne (by omega)]; exact hs a j a0 a38) (by omega)
  exact L355 5 0 σ350 (by omega) T0 ⟨(by rw [eσ350, zq_up_ne (by decide), eσ348, zq_cell_no (by decide), eσ342, zq_up_ne (by decide), eσ340, zq_cell_no (by decide), eσ335, zq_up_ne (by decide), eσ333, zq_cell_no (by decide), eσ328, zq_up_ne (by decide), eσ326, zq_cell_no (by decide), eσ320, zq_up_ne (by decide), eσ318, zq_cell_no (by decide), eσ312, zq_up_ne (by decide), eσ310, zq_cell_no (by decide), eσ304, zq_up_ne (by decide), eσ302, zq_cell_no (by decide), eσ296, zq_up_ne (by decide), eσ294, zq_cell_no (by decide), eσ288, zq_up_ne (by decide), eσ286, zq_cell_no (by decide), eσ280, zq_up_ne (by decide), eσ278, zq_cell_no (by decide), eσ272, zq_up_ne (by decide), eσ270, zq_cell_no (by decide), eσ264, zq_up_ne (by decide), eσ262, zq_cell_no (by decide), eσ256, zq_up_ne (by decide), eσ254, zq_cell_no (by decide), eσ248, zq_up_ne (by decide), eσ246, zq_cell_no (by decide), eσ240, zq_up_ne (by decide), eσ238, zq_cell_no (by decide), eσ232, zq_up_ne (by decide), eσ230, zq_cell_no (by decide), eσ224, zq_up_ne (by decide), eσ222, zq_cell_no (by decide), eσ216, zq_up_ne (by decide), eσ214, zq_cell_no (by decide), eσ208, zq_up_ne (by decide), eσ206, zq_cell_no (by decide), eσ200, zq_up_ne (by decide), eσ198, zq_cell_no (by decide), eσ192, zq_up_ne (by decide), eσ187, zq_up_ne (by decide), eσ185, zq_cell_no (by decide), eσ179, zq_up_ne (by decide), eσ177, zq_cell_no (by decide), eσ172, zq_up_ne (by decide), eσ170, zq_cell_no (by decide), eσ163, zq_up_ne (by decide), eσ158, zq_up_ne (by decide), eσ156, zq_cell_no (by decide), eσ149, zq_up_ne (by decide), eσ147, zq_cell_no (by decide), eσ141, zq_up_ne (by decide), eσ139, zq_cell_no (by decide), eσ132, zq_up_ne (by decide), eσ130, zq_cell_no (by decide), eσ124, zq_up_ne (by decide), eσ122, zq_cell_no (by decide), eσ116, zq_up_ne (by decide), eσ114, zq_cell_no (by decide), eσ108, zq_up_ne (by decide), eσ106, zq_cell_no (by decide), eσ100, zq_up_ne (by decide), eσ98, zq_cell_no (by decide), eσ92, zq_up_ne (by decide), eσ90, zq_cell_no (by decide), eσ84, zq_up_ne (by decide), eσ82, zq_cell_no (by decide), eσ76, zq_up_ne (by decide), eσ74, zq_cell_no (by decide), eσ68, zq_up_ne (by decide), eσ66, zq_cell_no (by decide), eσ59, zq_up_ne (by decide), eσ57, zq_cell_no (by decide), eσ51, zq_up_ne (by decide), eσ49, zq_cell_no (by decide), eσ43, zq_up_ne (by decide), eσ41, zq_cell_no (by decide), eσ35, zq_up_ne (by decide), eσ33, zq_cell_no (by decide), eσ26, zq_up_ne (by decide), eσ24, zq_cell_no (by decide), eσ18, zq_up_ne (by decide), eσ12, zq_up_ne (by decide), eσ7, zq_up_same]), (by rw [eσ350, zq_up_ne (by decide), eσ348, zq_cell_no (by decide), eσ342, zq_up_ne (by decide), eσ340, zq_cell_no (by decide), eσ335, zq_up_ne (by decide), eσ333, zq_cell_no (by decide), eσ328, zq_up_ne (by decide), eσ326, zq_cell_no (by decide), eσ320, zq_up_ne (by decide), eσ318, zq_cell_no (by decide), eσ312, zq_up_ne (by decide), eσ310, zq_cell_no (by decide), eσ304, zq_up_ne (by decide), eσ302, zq_cell_no (by decide), eσ296, zq_up_ne (by decide), eσ294, zq_cell_no (by decide), eσ288, zq_up_ne (by decide), eσ286, zq_cell_no (by decide), eσ280, zq_up_ne (by decide), eσ278, zq_cell_no (by decide), eσ272, zq_up_ne (by decide), eσ270, zq_cell_no (by decide), eσ264, zq_up_ne (by decide), eσ262, zq_cell_no (by decide), eσ256, zq_up_ne (by decide), eσ254, zq_cell_no (by decide), eσ248, zq_up_ne (by decide), eσ246, zq_cell_no (by decide), eσ240, zq_up_ne (by decide), eσ238, zq_cell_no (by decide), eσ232, zq_up_ne (by decide), eσ230, zq_cell_no (by decide), eσ224, zq_up_ne (by decide), eσ222, zq_cell_no (by decide), eσ216, zq_up_ne (by decide), eσ214, zq_cell_no (by decide), eσ208, zq_up_ne (by decide), eσ206, zq_cell_no (by decide), eσ200, zq_up_ne (by decide), eσ198, zq_cell_no (by decide), eσ192, zq_up_ne (by decide), eσ187, zq_up_ne (by decide), eσ185, zq_cell_no (by decide), eσ179, zq_up_ne (by decide), eσ177, zq_cell_no (by decide), eσ172, zq_up_ne (by decide), eσ170, zq_cell_no (by decide), eσ163, zq_up_ne (by decide), eσ158, zq_up_ne (by decide), eσ156, zq_cell_no (by decide), eσ149, zq_up_ne (by decide), eσ147, zq_cell_no (by decide), eσ141, zq_up_ne (by decide), eσ139, zq_cell_no (by decide), eσ132, zq_up_ne (by decide), eσ130, zq_cell_no (by decide), eσ124, zq_up_ne (by decide), eσ122, zq_cell_no (by decide), eσ116, zq_up_ne (by decide), eσ114, zq_cell_no (by decide), eσ108, zq_up_ne (by decide), eσ106, zq_cell_no (by decide), eσ100, zq_up_ne (by decide), eσ98, zq_cell_no (by decide), eσ92, zq_up_ne (by decide), eσ90, zq_cell_no (by decide), eσ84, zq_up_ne (by decide), eσ82, zq_cell_no (by decide), eσ76, zq_up_ne (by decide), eσ74, zq_cell_no (by decide), eσ68, zq_up_ne (by decide), eσ66, zq_cell_no (by decide), eσ59, zq_up_ne (by decide), eσ57, zq_cell_no (by decide), eσ51, zq_up_ne (by decide), eσ49, zq_cell_no (by decide), eσ43, zq_up_ne (by decide), eσ41, zq_cell_no (by decide), eσ35, zq_up_ne (by decide), eσ33, zq_cell_no (by decide), eσ26, zq_up_ne (by decide), eσ24, zq_cell_no (by decide), eσ18, zq_up_ne (by decide), eσ12, zq_up_same]), (by rw [eσ350, zq_up_ne (by decide), eσ348, zq_cell_no (by decide), eσ342, zq_up_ne (by decide), eσ340, zq_cell_no (by decide), eσ335, zq_up_ne (by decide), eσ333, zq_cell_no (by decide), eσ328, zq_up_ne (by decide), eσ326, zq_cell_no (by decide), eσ320, zq_up_ne (by decide), eσ318, zq_cell_no (by decide), eσ312, zq_up_ne (by decide), eσ310, zq_cell_no (by decide), eσ304, zq_up_ne (by decide), eσ302, zq_cell_no (by decide), eσ296, zq_up_ne (by decide), eσ294, zq_cell_no (by decide), eσ288, zq_up_ne (by decide), eσ286, zq_cell_no (by decide), eσ280, zq_up_ne (by decide), eσ278, zq_cell_no (by decide), eσ272, zq_up_ne (by decide), eσ270, zq_cell_no (by decide), eσ264, zq_up_ne (by decide), eσ262, zq_cell_no (by decide), eσ256, zq_up_ne (by decide), eσ254, zq_cell_no (by decide), eσ248, zq_up_ne (by decide), eσ246, zq_cell_no (by decide), eσ240, zq_up_ne (by decide), eσ238, zq_cell_no (by decide), eσ232, zq_up_ne (by decide), eσ230, zq_cell_no (by decide), eσ224, zq_up_ne (by decide), eσ222, zq_cell_no (by decide), eσ216, zq_up_ne (by decide), eσ214, zq_cell_no (by decide), eσ208, zq_up_ne (by decide), eσ206, zq_cell_no (by decide), eσ200, zq_up_ne (by decide), eσ198, zq_cell_no (by decide), eσ192, zq_up_ne (by decide), eσ187, zq_up_ne (by decide), eσ185, zq_cell_no (by decide), eσ179, zq_up_ne (by decide), eσ177, zq_cell_no (by decide), eσ172, zq_up_ne (by decide), eσ170, zq_cell_no (by decide), eσ163, zq_up_ne (by decide), eσ158, zq_up_ne (by decide), eσ156, zq_cell_no (by decide), eσ149, zq_up_ne (by decide), eσ147, zq_cell_no (by decide), eσ141, zq_up_ne (by decide), eσ139, zq_cell_no (by decide), eσ132, zq_up_ne (by decide), eσ130, zq_cell_no (by decide), eσ124, zq_up_ne (by decide), eσ122, zq_cell_no (by decide), eσ116, zq_up_ne (by decide), eσ114, zq_cell_no (by decide), eσ108, zq_up_ne (by decide), eσ106, zq_cell_no (by decide), eσ100, zq_up_ne (by decide), eσ98, zq_cell_no (by decide), eσ92, zq_up_ne (by decide), eσ90, zq_cell_no (by decide), eσ84, zq_up_ne (by decide), eσ82, zq_cell_no (by decide), eσ76, zq_up_ne (by decide), eσ74, zq_cell_no (by decide), eσ68, zq_up_ne (by decide), eσ66, zq_cell_no (by decide), eσ59, zq_up_ne (by decide), eσ57, zq_cell_no (by decide), eσ51, zq_up_ne (by decide), eσ49, zq_cell_no (by decide), eσ43, zq_up_ne (by decide), eσ41, zq_cell_no (by decide), eσ35, zq_up_ne (by decide), eσ33, zq_cell_no (by decide), eσ26, zq_up_ne (by decide), eσ24, zq_cell_no (by decide), eσ18, zq_up_same]), (by rw [eσ350, zq_up_ne (by decide), eσ348, zq_cell_no (by decide), eσ342, zq_up_ne (by decide), eσ340, zq_cell_no (by decide), eσ335, zq_up_ne (by decide), eσ333, zq_cell_no (by decide), eσ328, zq_up_ne (by decide), eσ326, zq_cell_no (by decide), eσ320, zq_up_ne (by decide), eσ318, zq_cell_no (by decide), eσ312, zq_up_ne (by decide), eσ310, zq_cell_no (by decide), eσ304, zq_up_ne (by decide), eσ302, zq_cell_no (by decide), eσ296, zq_up_ne (by decide), eσ294, zq_cell_no (by decide), eσ288, zq_up_ne (by decide), eσ286, zq_cell_no (by decide), eσ280, zq_up_ne (by decide), eσ278, zq_cell_no (by decide), eσ272, zq_up_ne (by decide), eσ270, zq_cell_no (by decide), eσ264, zq_up_ne (by decide), eσ262, zq_cell_no (by decide), eσ256, zq_up_ne (by decide), eσ254, zq_cell_no (by decide), eσ248, zq_up_ne (by decide), eσ246, zq_cell_no (by decide), eσ240, zq_up_ne (by decide), eσ238, zq_cell_no (by decide), eσ232, zq_up_ne (by decide), eσ230, zq_cell_no (by decide), eσ224, zq_up_ne (by decide), eσ222, zq_cell_no (by decide), eσ216, zq_up_ne (by decide), eσ214, zq_cell_no (by decide), eσ208, zq_up_ne (by decide), eσ206, zq_cell_no (by decide), eσ200, zq_up_ne (by decide), eσ198, zq_cell_no (by decide), eσ192, zq_up_ne (by decide), eσ187, zq_up_ne (by decide), eσ185, zq_cell_no (by decide), eσ179, zq_up_ne (by decide), eσ177, zq_cell_no (by decide), eσ172, zq_up_ne (by decide), eσ170, zq_cell_no (by decide), eσ163, zq_up_ne (by decide), eσ158, zq_up_ne (by decide), eσ156, zq_cell_no (by decide), eσ149, zq_up_ne (by decide), eσ147, zq_cell_no (by decide), eσ141, zq_up_ne (by decide), eσ139, zq_cell_no (by decide), eσ132, zq_up_ne (by decide), eσ130, zq_cell_no (by decide), eσ124, zq_up_ne (by decide), eσ122, zq_cell_no (by decide), eσ116, zq_up_ne (by decide), eσ114, zq_cell_no (by decide), eσ108, zq_up_ne (by decide), eσ106, zq_cell_no (by decide), eσ100, zq_up_ne (by decide), eσ98, zq_cell_no (by decide), eσ92, zq_up_ne (by decide), eσ90, zq_cell_no (by decide), eσ84, zq_up_ne (by decide), eσ82, zq_cell_no (by decide), eσ76, zq_up_ne (by decide), eσ74, zq_cell_no (by decide), eσ68, zq_up_ne (by decide), eσ66, zq_cell_no (by decide), eσ59, zq_up_ne (by decide), eσ57, zq_cell_no (by decide), eσ51, zq_up_ne (by decide), eσ49, zq_cell_no (by decide), eσ43, zq_up_ne (by decide), eσ41, zq_cell_no (by decide), eσ35, zq_up_ne (by decide), eσ33, zq_cell_no (by decide), eσ26, zq_up_ne (by decide), eσ24, zq_cell_no (by decide), eσ18, zq_up_ne (by decide), eσ12, zq_up_ne (by decide), eσ7, zq_up_ne (by decide)]; exact (q0 14).trans rfl)⟩ (fun j h1 h2 => absurd h2 (by omega)) (fun a j a0 _ => zσ350 a j a0) (by omega)
