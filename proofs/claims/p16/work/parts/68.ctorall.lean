set_option maxHeartbeats 800000 in
theorem c_X11_init_0 {σ : zq_S} (q0 : ∀ i, σ 0 i = zq_df 11 i) : zq_C zc_w yX11_init cX11_init 1 (none) 5 108 1 284 [ZR 0] σ (zq_pv (fun τ => zc_T τ ∧ zc_U τ ∧ zt_C0 τ)) := by
  refine zq_C_of (by decide) (by decide) (Nat.le_of_ble_eq_true rfl) [some (ZR 0)] rfl (fun V hV => ?_)
  refine zr_aload_n (pc := 0) hV dX11_init_0 rfl rfl ?_
  refine zr_objInit (pc := 1) hV dX11_init_1 lo11 lo_i lo_c (by decide) (by decide) ?_
  refine zr_aload_n (pc := 4) hV dX11_init_4 rfl rfl ?_
  refine zr_new (pc := 5) hV (ci := 8) dX11_init_5 rfl zq_tbX8 tyX8_ok ct8 cX11_7 ci8 cn8 (zc_k1 (rfl : zc_kd 1 = 1)) (by decide) (fun σ5 eσ5 => ?_)
  have eσ5 : σ5 = zq_cell σ 1 (zq_df 8) := eσ5
  show V 8 [some (ZR 0)] [ZR 1, ZR 0] 2 σ5
  refine zr_dup (pc := 8) hV dX11_init_8 (fun _ => rfl) ?_
  refine zr_callN (pc := 9) hV [] (st := [ZR 1, ZR 0]) (c_X8_init_1 (fun i => by rw [eσ5]; exact zq_cell_at _ _ _ _)) dX11_init_9 iX11_9 (by decide) (Nat.le_of_ble_eq_true rfl) (by decide) (fun σ9 qσ9 => ?_)
  obtain ⟨hσ9, fσ9⟩ := qσ9
  show V 12 [some (ZR 0)] [ZR 1, ZR 0] 3 σ9
  refine zr_putR (pc := 12) hV 0 dX11_init_12 fX11_10 rfl (Or.inr ⟨rfl, rfl⟩) rfl (by decide) (zc_k0 (rfl : zc_kd 0 = 0)) ⟨by decide, by decide⟩ (fun σ12 eσ12 => ?_)
  refine zr_aload_n (pc := 15) hV dX11_init_15 rfl rfl ?_
  refine zr_new (pc := 16) hV (ci := 9) dX11_init_16 rfl zq_tbX9 tyX9_ok ct9 cX11_16 ci9 cn9 (zc_k3 (rfl : zc_kd 3 = 3)) (by decide) (fun σ16 eσ16 => ?_)
  have eσ16 : σ16 = zq_cell σ12 3 (zq_df 9) := eσ16
  show V 19 [some (ZR 0)] [ZR 3, ZR 0] 4 σ16
  refine zr_dup (pc := 19) hV dX11_init_19 (fun _ => rfl) ?_
  refine zr_callI (pc := 20) hV [] (st := [ZR 3, ZR 0]) (c_X9_init_3 (fun i => by rw [eσ16]; exact zq_cell_at _ _ _ _)) dX11_init_20 iX11_18 (by decide) (Nat.le_of_ble_eq_true rfl) (by decide) (fun σ20 qσ20 => ?_)
  obtain ⟨hσ20, fσ20⟩ := qσ20
  show V 23 [some (ZR 0)] [ZR 3, ZR 0] 132 σ20
  refine zr_putR (pc := 23) hV 1 dX11_init_23 fX11_19 rfl (Or.inr ⟨rfl, rfl⟩) rfl (by decide) (zc_k0 (rfl : zc_kd 0 = 0)) ⟨by decide, by decide⟩ (fun σ23 eσ23 => ?_)
  refine zr_aload_n (pc := 26) hV dX11_init_26 rfl rfl ?_
  refine zr_new (pc := 27) hV (ci := 4) dX11_init_27 rfl zq_tbX4 tyX4_ok ct4 cX11_23 ci4 cn4 (zc_k132 (rfl : zc_kd 132 = 132)) (by decide) (fun σ27 eσ27 => ?_)
  have eσ27 : σ27 = zq_cell σ23 132 (zq_df 4) := eσ27
  show V 30 [some (ZR 0)] [ZR 132, ZR 0] 133 σ27
  refine zr_dup (pc := 30) hV dX11_init_30 (fun _ => rfl) ?_
  refine zr_aload_n (pc := 31) hV dX11_init_31 rfl rfl ?_
  refine zr_getR (pc := 32) hV 0 1 dX11_init_32 fX11_10 rfl rfl (zc_k0 (rfl : zc_kd 0 = 0)) ⟨by decide, by decide⟩ (by rw [eσ27, zq_cell_no (by omega), eσ23, zq_up_ne (by omega), fσ20 _ _ (by omega), eσ16, zq_cell_no (by omega), eσ12, zq_up_same]) (by decide) ?_
  refine zr_aload_n (pc := 35) hV dX11_init_35 rfl rfl ?_
  refine zr_getR (pc := 36) hV 1 3 dX11_init_36 fX11_19 rfl rfl (zc_k0 (rfl : zc_kd 0 = 0)) ⟨by decide, by decide⟩ (by rw [eσ27, zq_cell_no (by omega), eσ23, zq_up_same]) (by decide) ?_
  refine zr_callI (pc := 39) hV [ZR 1, ZR 3] (st := [ZR 132, ZR 0]) (c_X4_init_132 (fun i => by rw [eσ27]; exact zq_cell_at _ _ _ _)) dX11_init_39 iX11_25 (by decide) (Nat.le_of_ble_eq_true rfl) (by decide) (fun σ39 qσ39 => ?_)
  obtain ⟨hσ39, fσ39⟩ := qσ39
  show V 42 [some (ZR 0)] [ZR 132, ZR 0] 134 σ39
  refine zr_putR (pc := 42) hV 2 dX11_init_42 fX11_28 rfl (Or.inr ⟨rfl, rfl⟩) rfl (by decide) (zc_k0 (rfl : zc_kd 0 = 0)) ⟨by decide, by decide⟩ (fun σ42 eσ42 => ?_)
  refine zr_aload_n (pc := 45) hV dX11_init_45 rfl rfl ?_
  refine zr_new (pc := 46) hV (ci := 2) dX11_init_46 rfl zq_tbX2 tyX2_ok ct2 cX11_32 ci2 cn2 (zc_k134 (rfl : zc_kd 134 = 134)) (by decide) (fun σ46 eσ46 => ?_)
  have eσ46 : σ46 = zq_cell σ42 134 (zq_df 2) := eσ46
  show V 49 [some (ZR 0)] [ZR 134, ZR 0] 135 σ46
  refine zr_dup (pc := 49) hV dX11_init_49 (fun _ => rfl) ?_
  refine zr_callI (pc := 50) hV [] (st := [ZR 134, ZR 0]) (c_X2_init_134 (fun i => by rw [eσ46]; exact zq_cell_at _ _ _ _)) dX11_init_50 iX11_34 (by decide) (Nat.le_of_ble_eq_true rfl) (by decide) (fun σ50 qσ50 => ?_)
  obtain ⟨hσ50, fσ50⟩ := qσ50
  show V 53 [some (ZR 0)] [ZR 134, ZR 0] 139 σ50
  refine zr_putR (pc := 53) hV 3 dX11_init_53 fX11_35 rfl (Or.inr ⟨rfl, rfl⟩) rfl (by decide) (zc_k0 (rfl : zc_kd 0 = 0)) ⟨by decide, by decide⟩ (fun σ53 eσ53 => ?_)
  refine zr_aload_n (pc := 56) hV dX11_init_56 rfl rfl ?_
  refine zr_bipush (pc := 57) hV 64 dX11_init_57 (by decide) ?_
  refine zr_newa (pc := 59) hV 64 dX11_init_59 rfl rfl carr (zc_k139 (rfl : zc_kd 139 = 139)) (by decide) (fun σ59 eσ59 => ?_)
  have eσ59 : σ59 = zq_cell σ53 139 (fun _ => 0) := eσ59
  show V 61 [some (ZR 0)] [ZR 139, ZR 0] 140 σ59
  refine zr_putR (pc := 61) hV 4 dX11_init_61 fX11_39 rfl (Or.inr ⟨rfl, rfl⟩) rfl (by decide) (zc_k0 (rfl : zc_kd 0 = 0)) ⟨by decide, by decide⟩ (fun σ61 eσ61 => ?_)
  refine zr_aload_n (pc := 64) hV dX11_init_64 rfl rfl ?_
  refine zr_new (pc := 65) hV (ci := 6) dX11_init_65 rfl zq_tbX6 tyX6_ok ct6 cX11_43 ci6 cn6 (zc_k140 (rfl : zc_kd 140 = 140)) (by decide) (fun σ65 eσ65 => ?_)
  have eσ65 : σ65 = zq_cell σ61 140 (zq_df 6) := eσ65
  show V 68 [some (ZR 0)] [ZR 140, ZR 0] 141 σ65
  refine zr_dup (pc := 68) hV dX11_init_68 (fun _ => rfl) ?_
  refine zr_aload_n (pc := 69) hV dX11_init_69 rfl rfl ?_
  refine zr_getR (pc := 70) hV 1 3 dX11_init_70 fX11_19 rfl rfl (zc_k0 (rfl : zc_kd 0 = 0)) ⟨by decide, by decide⟩ (by rw [eσ65, zq_cell_no (by omega), eσ61, zq_up_ne (by omega), eσ59, zq_cell_no (by omega), eσ53, zq_up_ne (by omega), fσ50 _ _ (by omega), eσ46, zq_cell_no (by omega), eσ42, zq_up_ne (by omega), fσ39 _ _ (by omega), eσ27, zq_cell_no (by omega), eσ23, zq_up_same]) (by decide) ?_
  refine zr_aload_n (pc := 73) hV dX11_init_73 rfl rfl ?_
  refine zr_getR (pc := 74) hV 4 139 dX11_init_74 fX11_39 rfl rfl (zc_k0 (rfl : zc_kd 0 = 0)) ⟨by decide, by decide⟩ (by rw [eσ65, zq_cell_no (by omega), eσ61, zq_up_same]) (by decide) ?_
  refine zr_callI (pc := 77) hV [ZR 3, ZR 139] (st := [ZR 140, ZR 0]) (c_X6_init_140 (fun i => by rw [eσ65]; exact zq_cell_at _ _ _ _)) dX11_init_77 iX11_45 (by decide) (Nat.le_of_ble_eq_true rfl) (by decide) (fun σ77 qσ77 => ?_)
  obtain ⟨hσ77, fσ77⟩ := qσ77
  show V 80 [some (ZR 0)] [ZR 140, ZR 0] 255 σ77
  refine zr_putR (pc := 80) hV 5 dX11_init_80 fX11_48 rfl (Or.inr ⟨rfl, rfl⟩) rfl (by decide) (zc_k0 (rfl : zc_kd 0 = 0)) ⟨by decide, by decide⟩ (fun σ80 eσ80 => ?_)
  refine zr_aload_n (pc := 83) hV dX11_init_83 rfl rfl ?_
  refine zr_new (pc := 84) hV (ci := 1) dX11_init_84 rfl zq_tbX1 tyX1_ok ct1 cX11_52 ci1 cn1 (zc_k255 (rfl : zc_kd 255 = 255)) (by decide) (fun σ84 eσ84 => ?_)
  have eσ84 : σ84 = zq_cell σ80 255 (zq_df 1) := eσ84
  show V 87 [some (ZR 0)] [ZR 255, ZR 0] 256 σ84
  refine zr_dup (pc := 87) hV dX11_init_87 (fun _ => rfl) ?_
  refine zr_aload_n (pc := 88) hV dX11_init_88 rfl rfl ?_
  refine zr_getR (pc := 89) hV 1 3 dX11_init_89 fX11_19 rfl rfl (zc_k0 (rfl : zc_kd 0 = 0)) ⟨by decide, by decide⟩ (by rw [eσ84, zq_cell_no (by omega), eσ80, zq_up_ne (by omega), fσ77 _ _ (by omega), eσ65, zq_cell_no (by omega), eσ61, zq_up_ne (by omega), eσ59, zq_cell_no (by omega), eσ53, zq_up_ne (by omega), fσ50 _ _ (by omega), eσ46, zq_cell_no (by omega), eσ42, zq_up_ne (by omega), fσ39 _ _ (by omega), eσ27, zq_cell_no (by omega), eσ23, zq_up_same]) (by decide) ?_
  refine zr_callI (pc := 92) hV [ZR 3] (st := [ZR 255, ZR 0]) (c_X1_init_255 (fun i => by rw [eσ84]; exact zq_cell_at _ _ _ _)) dX11_init_92 iX11_54 (by decide) (Nat.le_of_ble_eq_true rfl) (by decide) (fun σ92 qσ92 => ?_)
  obtain ⟨hσ92, fσ92⟩ := qσ92
  show V 95 [some (ZR 0)] [ZR 255, ZR 0] 276 σ92
  refine zr_putR (pc := 95) hV 6 dX11_init_95 fX11_57 rfl (Or.inr ⟨rfl, rfl⟩) rfl (by decide) (zc_k0 (rfl : zc_kd 0 = 0)) ⟨by decide, by decide⟩ (fun σ95 eσ95 => ?_)
  refine zr_aload_n (pc := 98) hV dX11_init_98 rfl rfl ?_
  refine zr_new (pc := 99) hV (ci := 5) dX11_init_99 rfl zq_tbX5 tyX5_ok ct5 cX11_61 ci5 cn5 (zc_k276 (rfl : zc_kd 276 = 276)) (by decide) (fun σ99 eσ99 => ?_)
  have eσ99 : σ99 = zq_cell σ95 276 (zq_df 5) := eσ99
  show V 102 [some (ZR 0)] [ZR 276, ZR 0] 277 σ99
  refine zr_dup (pc := 102) hV dX11_init_102 (fun _ => rfl) ?_
  refine zr_callI (pc := 103) hV [] (st := [ZR 276, ZR 0]) (c_X5_init_276 (fun i => by rw [eσ99]; exact zq_cell_at _ _ _ _)) dX11_init_103 iX11_63 (by decide) (Nat.le_of_ble_eq_true rfl) (by decide) (fun σ103 qσ103 => ?_)
  obtain ⟨hσ103, fσ103⟩ := qσ103
  show V 106 [some (ZR 0)] [ZR 276, ZR 0] 284 σ103
  refine zr_putR (pc := 106) hV 7 dX11_init_106 fX11_64 rfl (Or.inr ⟨rfl, rfl⟩) rfl (by decide) (zc_k0 (rfl : zc_kd 0 = 0)) ⟨by decide, by decide⟩ (fun σ106 eσ106 => ?_)
  refine zr_aload_n (pc := 109) hV dX11_init_109 rfl rfl ?_
  refine zr_bipush (pc := 110) hV 8 dX11_init_110 (by decide) ?_
  refine zr_iconst (pc := 112) hV 2 dX11_init_112 rfl ?_
  refine zr_bipush (pc := 113) hV 8 dX11_init_113 (by decide) ?_
  have HI : ∀ x i, 0 ≤ x → x ≤ 283 → σ106 x i = zc_I x i := by
    intro x i h1 h2
    by_cases s0 : x = 0
    · rw [s0]
      rw [zc_Ie0 (rfl : zc_kd 0 = 0)]
      unfold zc_I0
      by_cases j0 : i = 0
      · rw [if_pos j0, j0, eσ106, zq_up_ne (by omega), fσ103 _ _ (by omega), eσ99, zq_cell_no (by omega), eσ95, zq_up_ne (by omega), fσ92 _ _ (by omega), eσ84, zq_cell_no (by omega), eσ80, zq_up_ne (by omega), fσ77 _ _ (by omega), eσ65, zq_cell_no (by omega), eσ61, zq_up_ne (by omega), eσ59, zq_cell_no (by omega), eσ53, zq_up_ne (by omega), fσ50 _ _ (by omega), eσ46, zq_cell_no (by omega), eσ42, zq_up_ne (by omega), fσ39 _ _ (by omega), eσ27, zq_cell_no (by omega), eσ23, zq_up_ne (by omega), fσ20 _ _ (by omega), eσ16, zq_cell_no (by omega), eσ12, zq_up_same] <;> rfl
      rw [if_neg j0]
      by_cases j1 : i = 1
      · rw [if_pos j1, j1, eσ106, zq_up_ne (by omega), fσ103 _ _ (by omega), eσ99, zq_cell_no (by omega), eσ95, zq_up_ne (by omega), fσ92 _ _ (by omega), eσ84, zq_cell_no (by omega), eσ80, zq_up_ne (by omega), fσ77 _ _ (by omega), eσ65, zq_cell_no (by omega), eσ61, zq_up_ne (by omega), eσ59, zq_cell_no (by omega), eσ53, zq_up_ne (by omega), fσ50 _ _ (by omega), eσ46, zq_cell_no (by omega), eσ42, zq_up_ne (by omega), fσ39 _ _ (by omega), eσ27, zq_cell_no (by omega), eσ23, zq_up_same] <;> rfl
      rw [if_neg j1]
      by_cases j2 : i = 2
      · rw [if_pos j2, j2, eσ106, zq_up_ne (by omega), fσ103 _ _ (by omega), eσ99, zq_cell_no (by omega), eσ95, zq_up_ne (by omega), fσ92 _ _ (by omega), eσ84, zq_cell_no (by omega), eσ80, zq_up_ne (by omega), fσ77 _ _ (by omega), eσ65, zq_cell_no (by omega), eσ61, zq_up_ne (by omega), eσ59, zq_cell_no (by omega), eσ53, zq_up_ne (by omega), fσ50 _ _ (by omega), eσ46, zq_cell_no (by omega), eσ42, zq_up_same] <;> rfl
      rw [if_neg j2]
      by_cases j3 : i = 3
      · rw [if_pos j3, j3, eσ106, zq_up_ne (by omega), fσ103 _ _ (by omega), eσ99, zq_cell_no (by omega), eσ95, zq_up_ne (by omega), fσ92 _ _ (by omega), eσ84, zq_cell_no (by omega), eσ80, zq_up_ne (by omega), fσ77 _ _ (by omega), eσ65, zq_cell_no (by omega), eσ61, zq_up_ne (by omega), eσ59, zq_cell_no (by omega), eσ53, zq_up_same] <;> rfl
      rw [if_neg j3]
      by_cases j4 : i = 4
      · rw [if_pos j4, j4, eσ106, zq_up_ne (by omega), fσ103 _ _ (by omega), eσ99, zq_cell_no (by omega), eσ95, zq_up_ne (by omega), fσ92 _ _ (by omega), eσ84, zq_cell_no (by omega), eσ80, zq_up_ne (by omega), fσ77 _ _ (by omega), eσ65, zq_cell_no (by omega), eσ61, zq_up_same] <;> rfl
      rw [if_neg j4]
      by_cases j5 : i = 5
      · rw [if_pos j5, j5, eσ106, zq_up_ne (by omega), fσ103 _ _ (by omega), eσ99, zq_cell_no (by omega), eσ95, zq_up_ne (by omega), fσ92 _ _ (by omega), eσ84, zq_cell_no (by omega), eσ80, zq_up_same] <;> rfl
      rw [if_neg j5]
      by_cases j6 : i = 6
      · rw [if_pos j6, j6, eσ106, zq_up_ne (by omega), fσ103 _ _ (by omega), eσ99, zq_cell_no (by omega), eσ95, zq_up_same] <;> rfl
      rw [if_neg j6]
      by_cases j7 : i = 7
      · rw [if_pos j7, j7, eσ106, zq_up_same] <;> rfl
      rw [if_neg j7]
      rw [eσ106, zq_up_ne (by omega), fσ103 _ _ (by omega), eσ99, zq_cell_no (by omega), eσ95, zq_up_ne (by omega), fσ92 _ _ (by omega), eσ84, zq_cell_no (by omega), eσ80, zq_up_ne (by omega), fσ77 _ _ (by omega), eσ65, zq_cell_no (by omega), eσ61, zq_up_ne (by omega), eσ59, zq_cell_no (by omega), eσ53, zq_up_ne (by omega), fσ50 _ _ (by omega), eσ46, zq_cell_no (by omega), eσ42, zq_up_ne (by omega), fσ39 _ _ (by omega), eσ27, zq_cell_no (by omega), eσ23, zq_up_ne (by omega), fσ20 _ _ (by omega), eσ16, zq_cell_no (by omega), eσ12, zq_up_ne (by omega), fσ9 _ _ (by omega), eσ5, zq_cell_no (by omega)]
      exact q0 i
    by_cases s1 : 1 ≤ x ∧ x ≤ 2
    · rw [eσ106, zq_up_ne (by omega), fσ103 _ _ (by omega), eσ99, zq_cell_no (by omega), eσ95, zq_up_ne (by omega), fσ92 _ _ (by omega), eσ84, zq_cell_no (by omega), eσ80, zq_up_ne (by omega), fσ77 _ _ (by omega), eσ65, zq_cell_no (by omega), eσ61, zq_up_ne (by omega), eσ59, zq_cell_no (by omega), eσ53, zq_up_ne (by omega), fσ50 _ _ (by omega), eσ46, zq_cell_no (by omega), eσ42, zq_up_ne (by omega), fσ39 _ _ (by omega), eσ27, zq_cell_no (by omega), eσ23, zq_up_ne (by omega), fσ20 _ _ (by omega), eσ16, zq_cell_no (by omega), eσ12, zq_up_ne (by omega)]; exact hσ9 x i (by omega) (by omega)
    by_cases s3 : 3 ≤ x ∧ x ≤ 131
    · rw [eσ106, zq_up_ne (by omega), fσ103 _ _ (by omega), eσ99, zq_cell_no (by omega), eσ95, zq_up_ne (by omega), fσ92 _ _ (by omega), eσ84, zq_cell_no (by omega), eσ80, zq_up_ne (by omega), fσ77 _ _ (by omega), eσ65, zq_cell_no (by omega), eσ61, zq_up_ne (by omega), eσ59, zq_cell_no (by omega), eσ53, zq_up_ne (by omega), fσ50 _ _ (by omega), eσ46, zq_cell_no (by omega), eσ42, zq_up_ne (by omega), fσ39 _ _ (by omega), eσ27, zq_cell_no (by omega), eσ23, zq_up_ne (by omega)]; exact hσ20 x i (by omega) (by omega)
    by_cases s132 : 132 ≤ x ∧ x ≤ 133
    · rw [eσ106, zq_up_ne (by omega), fσ103 _ _ (by omega), eσ99, zq_cell_no (by omega), eσ95, zq_up_ne (by omega), fσ92 _ _ (by omega), eσ84, zq_cell_no (by omega), eσ80, zq_up_ne (by omega), fσ77 _ _ (by omega), eσ65, zq_cell_no (by omega), eσ61, zq_up_ne (by omega), eσ59, zq_cell_no (by omega), eσ53, zq_up_ne (by omega), fσ50 _ _ (by omega), eσ46, zq_cell_no (by omega), eσ42, zq_up_ne (by omega)]; exact hσ39 x i (by omega) (by omega)
    by_cases s134 : 134 ≤ x ∧ x ≤ 138
    · rw [eσ106, zq_up_ne (by omega), fσ103 _ _ (by omega), eσ99, zq_cell_no (by omega), eσ95, zq_up_ne (by omega), fσ92 _ _ (by omega), eσ84, zq_cell_no (by omega), eσ80, zq_up_ne (by omega), fσ77 _ _ (by omega), eσ65, zq_cell_no (by omega), eσ61, zq_up_ne (by omega), eσ59, zq_cell_no (by omega), eσ53, zq_up_ne (by omega)]; exact hσ50 x i (by omega) (by omega)
    by_cases s139 : 139 ≤ x ∧ x ≤ 139
    · rw [show x = 139 by omega]
      rw [zc_Ie139 (rfl : zc_kd 139 = 139)]
      rw [eσ106, zq_up_ne (by omega), fσ103 _ _ (by omega), eσ99, zq_cell_no (by omega), eσ95, zq_up_ne (by omega), fσ92 _ _ (by omega), eσ84, zq_cell_no (by omega), eσ80, zq_up_ne (by omega), fσ77 _ _ (by omega), eσ65, zq_cell_no (by omega), eσ61, zq_up_ne (by omega), eσ59, zq_cell_at]; rfl
    by_cases s140 : 140 ≤ x ∧ x ≤ 254
    · rw [eσ106, zq_up_ne (by omega), fσ103 _ _ (by omega), eσ99, zq_cell_no (by omega), eσ95, zq_up_ne (by omega), fσ92 _ _ (by omega), eσ84, zq_cell_no (by omega), eσ80, zq_up_ne (by omega)]; exact hσ77 x i (by omega) (by omega)
    by_cases s255 : 255 ≤ x ∧ x ≤ 275
    · rw [eσ106, zq_up_ne (by omega), fσ103 _ _ (by omega), eσ99, zq_cell_no (by omega), eσ95, zq_up_ne (by omega)]; exact hσ92 x i (by omega) (by omega)
    by_cases s276 : 276 ≤ x ∧ x ≤ 283
    · rw [eσ106, zq_up_ne (by omega)]; exact hσ103 x i (by omega) (by omega)
    exfalso; omega
  obtain ⟨hσ106, Uσ106⟩ := zc_T_I HI
  refine zr_callVv (pc := 115) hV [ZI 8, ZI 2, ZI 8] (st := []) (c_X11_startAnew_2 (σ := σ106) hσ106 8 2 8 ⟨by decide, by decide⟩ ⟨by decide, by decide⟩ ⟨by decide, by decide⟩ Uσ106) dX11_init_115 mX11_68 (zc_k0 zc_s0) ⟨by decide, by decide⟩ (by decide) (Nat.le_of_ble_eq_true rfl) (Nat.le_refl _) (fun σ115 pσ115 => ?_)
  obtain ⟨hσ115, hfσ115, pσ115, Uσ115⟩ := pσ115
  have tz : zt_C0 σ115 := ⟨by omega, fun i h0 h3 => ⟨by rw [hfσ115 277 i (zc_out_ar zc_s277 rfl), HI 277 i (by decide) (by decide), zc_Ie277 zc_s277]; unfold zc_I277; rw [if_pos (by omega)], by rw [hfσ115 278 i (zc_out_ar zc_s278 rfl), HI 278 i (by decide) (by decide), zc_Ie278 zc_s278]; rfl⟩⟩
  exact zr_vret (pc := 118) hV dX11_init_118 rfl rfl ⟨rfl, hσ115, Uσ115, tz⟩
