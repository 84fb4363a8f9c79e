set_option maxHeartbeats 800000 in
theorem c_X8_init_1 {σ : zq_S} (q0 : ∀ i, σ 1 i = zq_df 8 i) : zq_C zc_w yX8_init cX8_init 1 (none) 1 20 2 3 [ZR 1] σ (zq_pv (fun τ => (∀ x i, 1 ≤ x → x ≤ 2 → τ x i = zc_I x i) ∧ (∀ x i, x < 1 ∨ 2 < x → τ x i = σ x i))) := by
  refine zq_C_of (by decide) (by decide) (Nat.le_of_ble_eq_true rfl) [some (ZR 1)] rfl (fun V hV => ?_)
  refine zr_aload_n (pc := 0) hV dX8_init_0 rfl rfl ?_
  refine zr_objInit (pc := 1) hV dX8_init_1 lo8 lo_i lo_c (by decide) (by decide) ?_
  refine zr_aload_n (pc := 4) hV dX8_init_4 rfl rfl ?_
  refine zr_bipush (pc := 5) hV 80 dX8_init_5 (by decide) ?_
  refine zr_newa (pc := 7) hV 80 dX8_init_7 rfl rfl carr (zc_k2 (rfl : zc_kd 2 = 2)) (by decide) (fun σ7 eσ7 => ?_)
  have eσ7 : σ7 = zq_cell σ 2 (fun _ => 0) := eσ7
  show V 9 [some (ZR 1)] [ZR 2, ZR 1] 3 σ7
  refine zr_putR (pc := 9) hV 0 dX8_init_9 fX8_11 rfl (Or.inr ⟨rfl, rfl⟩) rfl (by decide) (zc_k1 (rfl : zc_kd 1 = 1)) ⟨by decide, by decide⟩ (fun σ9 eσ9 => ?_)
  refine zr_vret (pc := 12) hV dX8_init_12 rfl rfl ⟨rfl, ?_, ?_⟩
  · intro x i h1 h2
    by_cases s0 : x = 1
    · rw [s0]
      rw [zc_Ie1 (rfl : zc_kd 1 = 1)]
      unfold zc_I1
      by_cases j0 : i = 0
      · rw [if_pos j0, j0, eσ9, zq_up_same] <;> rfl
      rw [if_neg j0]
      rw [eσ9, zq_up_ne (by omega), eσ7, zq_cell_no (by omega)]
      exact q0 i
    by_cases s2 : 2 ≤ x ∧ x ≤ 2
    · rw [show x = 2 by omega]
      rw [zc_Ie2 (rfl : zc_kd 2 = 2)]
      rw [eσ9, zq_up_ne (by omega), eσ7, zq_cell_at]; rfl
    exfalso; omega
  · intro x i h
    rw [eσ9, zq_up_ne (by omega), eσ7, zq_cell_no (by omega)]
set_option maxHeartbeats 800000 in
theorem c_X4_init_132 {σ : zq_S} (q0 : ∀ i, σ 132 i = zq_df 4 i) : zq_C zc_w yX4_init cX4_init 3 (none) 1 20 133 134 [ZR 132, ZR 1, ZR 3] σ (zq_pv (fun τ => (∀ x i, 132 ≤ x → x ≤ 133 → τ x i = zc_I x i) ∧ (∀ x i, x < 132 ∨ 133 < x → τ x i = σ x i))) := by
  refine zq_C_of (by decide) (by decide) (Nat.le_of_ble_eq_true rfl) [some (ZR 132), some (ZR 1), some (ZR 3)] rfl (fun V hV => ?_)
  refine zr_aload_n (pc := 0) hV dX4_init_0 rfl rfl ?_
  refine zr_objInit (pc := 1) hV dX4_init_1 lo4 lo_i lo_c (by decide) (by decide) ?_
  refine zr_aload_n (pc := 4) hV dX4_init_4 rfl rfl ?_
  refine zr_bipush (pc := 5) hV 16 dX4_init_5 (by decide) ?_
  refine zr_newa (pc := 7) hV 16 dX4_init_7 rfl rfl carr (zc_k133 (rfl : zc_kd 133 = 133)) (by decide) (fun σ7 eσ7 => ?_)
  have eσ7 : σ7 = zq_cell σ 133 (fun _ => 0) := eσ7
  show V 9 [some (ZR 132), some (ZR 1), some (ZR 3)] [ZR 133, ZR 132] 134 σ7
  refine zr_putR (pc := 9) hV 2 dX4_init_9 fX4_11 rfl (Or.inr ⟨rfl, rfl⟩) rfl (by decide) (zc_k132 (rfl : zc_kd 132 = 132)) ⟨by decide, by decide⟩ (fun σ9 eσ9 => ?_)
  refine zr_aload_n (pc := 12) hV dX4_init_12 rfl rfl ?_
  refine zr_aload_n (pc := 13) hV dX4_init_13 rfl rfl ?_
  refine zr_putR (pc := 14) hV 0 dX4_init_14 fX4_15 rfl (Or.inr ⟨rfl, rfl⟩) rfl (by decide) (zc_k132 (rfl : zc_kd 132 = 132)) ⟨by decide, by decide⟩ (fun σ14 eσ14 => ?_)
  refine zr_aload_n (pc := 17) hV dX4_init_17 rfl rfl ?_
  refine zr_aload_n (pc := 18) hV dX4_init_18 rfl rfl ?_
  refine zr_putR (pc := 19) hV 1 dX4_init_19 fX4_19 rfl (Or.inr ⟨rfl, rfl⟩) rfl (by decide) (zc_k132 (rfl : zc_kd 132 = 132)) ⟨by decide, by decide⟩ (fun σ19 eσ19 => ?_)
  refine zr_vret (pc := 22) hV dX4_init_22 rfl rfl ⟨rfl, ?_, ?_⟩
  · intro x i h1 h2
    by_cases s0 : x = 132
    · rw [s0]
      rw [zc_Ie132 (rfl : zc_kd 132 = 132)]
      unfold zc_I132
      by_cases j0 : i = 0
      · rw [if_pos j0, j0, eσ19, zq_up_ne (by omega), eσ14, zq_up_same] <;> rfl
      rw [if_neg j0]
      by_cases j1 : i = 1
      · rw [if_pos j1, j1, eσ19, zq_up_same] <;> rfl
      rw [if_neg j1]
      by_cases j2 : i = 2
      · rw [if_pos j2, j2, eσ19, zq_up_ne (by omega), eσ14, zq_up_ne (by omega), eσ9, zq_up_same] <;> rfl
      rw [if_neg j2]
      rw [eσ19, zq_up_ne (by omega), eσ14, zq_up_ne (by omega), eσ9, zq_up_ne (by omega), eσ7, zq_cell_no (by omega)]
      exact q0 i
    by_cases s133 : 133 ≤ x ∧ x ≤ 133
    · rw [show x = 133 by omega]
      rw [zc_Ie133 (rfl : zc_kd 133 = 133)]
      rw [eσ19, zq_up_ne (by omega), eσ14, zq_up_ne (by omega), eσ9, zq_up_ne (by omega), eσ7, zq_cell_at]; rfl
    exfalso; omega
  · intro x i h
    rw [eσ19, zq_up_ne (by omega), eσ14, zq_up_ne (by omega), eσ9, zq_up_ne (by omega), eσ7, zq_cell_no (by omega)]
set_option maxHeartbeats 800000 in
theorem c_X2_init_134 {σ : zq_S} (q0 : ∀ i, σ 134 i = zq_df 2 i) : zq_C zc_w yX2_init cX2_init 1 (none) 2 40 135 139 [ZR 134] σ (zq_pv (fun τ => (∀ x i, 134 ≤ x → x ≤ 138 → τ x i = zc_I x i) ∧ (∀ x i, x < 134 ∨ 138 < x → τ x i = σ x i))) := by
  refine zq_C_of (by decide) (by decide) (Nat.le_of_ble_eq_true rfl) [some (ZR 134)] rfl (fun V hV => ?_)
  refine zr_aload_n (pc := 0) hV dX2_init_0 rfl rfl ?_
  refine zr_callN (pc := 1) hV [] (st := []) (c_X0_init 135 134) dX2_init_1 iX2_3 (by decide) (Nat.le_of_ble_eq_true rfl) (by decide) (fun σ1 qσ1 => ?_)
  rw [qσ1]
  refine zr_aload_n (pc := 4) hV dX2_init_4 rfl rfl ?_
  refine zr_bipush (pc := 5) hV 10 dX2_init_5 (by decide) ?_
  refine zr_newa (pc := 7) hV 10 dX2_init_7 rfl rfl carr (zc_k135 (rfl : zc_kd 135 = 135)) (by decide) (fun σ7 eσ7 => ?_)
  have eσ7 : σ7 = zq_cell σ 135 (fun _ => 0) := eσ7
  show V 9 [some (ZR 134)] [ZR 135, ZR 134] 136 σ7
  refine zr_putR (pc := 9) hV 1 dX2_init_9 fX2_11 rfl (Or.inr ⟨rfl, rfl⟩) rfl (by decide) (zc_k134 (rfl : zc_kd 134 = 134)) ⟨by decide, by decide⟩ (fun σ9 eσ9 => ?_)
  refine zr_aload_n (pc := 12) hV dX2_init_12 rfl rfl ?_
  refine zr_bipush (pc := 13) hV 9 dX2_init_13 (by decide) ?_
  refine zr_newa (pc := 15) hV 9 dX2_init_15 rfl rfl carr (zc_k136 (rfl : zc_kd 136 = 136)) (by decide) (fun σ15 eσ15 => ?_)
  have eσ15 : σ15 = zq_cell σ9 136 (fun _ => 0) := eσ15
  show V 17 [some (ZR 134)] [ZR 136, ZR 134] 137 σ15
  refine zr_putR (pc := 17) hV 2 dX2_init_17 fX2_15 rfl (Or.inr ⟨rfl, rfl⟩) rfl (by decide) (zc_k134 (rfl : zc_kd 134 = 134)) ⟨by decide, by decide⟩ (fun σ17 eσ17 => ?_)
  refine zr_aload_n (pc := 20) hV dX2_init_20 rfl rfl ?_
  refine zr_bipush (pc := 21) hV 9 dX2_init_21 (by decide) ?_
  refine zr_newa (pc := 23) hV 9 dX2_init_23 rfl rfl carr (zc_k137 (rfl : zc_kd 137 = 137)) (by decide) (fun σ23 eσ23 => ?_)
  have eσ23 : σ23 = zq_cell σ17 137 (fun _ => 0) := eσ23
  show V 25 [some (ZR 134)] [ZR 137, ZR 134] 138 σ23
  refine zr_putR (pc := 25) hV 3 dX2_init_25 fX2_18 rfl (Or.inr ⟨rfl, rfl⟩) rfl (by decide) (zc_k134 (rfl : zc_kd 134 = 134)) ⟨by decide, by decide⟩ (fun σ25 eσ25 => ?_)
  refine zr_aload_n (pc := 28) hV dX2_init_28 rfl rfl ?_
  refine zr_bipush (pc := 29) hV 10 dX2_init_29 (by decide) ?_
  refine zr_newa (pc := 31) hV 10 dX2_init_31 rfl rfl carr (zc_k138 (rfl : zc_kd 138 = 138)) (by decide) (fun σ31 eσ31 => ?_)
  have eσ31 : σ31 = zq_cell σ25 138 (fun _ => 0) := eσ31
  show V 33 [some (ZR 134)] [ZR 138, ZR 134] 139 σ31
  refine zr_putR (pc := 33) hV 4 dX2_init_33 fX2_21 rfl (Or.inr ⟨rfl, rfl⟩) rfl (by decide) (zc_k134 (rfl : zc_kd 134 = 134)) ⟨by decide, by decide⟩ (fun σ33 eσ33 => ?_)
  refine zr_aload_n (pc := 36) hV dX2_init_36 rfl rfl ?_
  refine zr_iconst (pc := 37) hV 3 dX2_init_37 rfl ?_
  refine zr_putI (pc := 38) hV 0 dX2_init_38 fX2_24 rfl rfl rfl (zc_k134 (rfl : zc_kd 134 = 134)) ⟨by decide, by decide⟩ (fun σ38 eσ38 => ?_)
  refine zr_vret (pc := 41) hV dX2_init_41 rfl rfl ⟨rfl, ?_, ?_⟩
  · intro x i h1 h2
    by_cases s0 : x = 134
    · rw [s0]
      rw [zc_Ie134 (rfl : zc_kd 134 = 134)]
      unfold zc_I134
      by_cases j0 : i = 0
      · rw [if_pos j0, j0, eσ38, zq_up_same] <;> rfl
      rw [if_neg j0]
      by_cases j1 : i = 1
      · rw [if_pos j1, j1, eσ38, zq_up_ne (by omega), eσ33, zq_up_ne (by omega), eσ31, zq_cell_no (by omega), eσ25, zq_up_ne (by omega), eσ23, zq_cell_no (by omega), eσ17, zq_up_ne (by omega), eσ15, zq_cell_no (by omega), eσ9, zq_up_same] <;> rfl
      rw [if_neg j1]
      by_cases j2 : i = 2
      · rw [if_pos j2, j2, eσ38, zq_up_ne (by omega), eσ33, zq_up_ne (by omega), eσ31, zq_cell_no (by omega), eσ25, zq_up_ne (by omega), eσ23, zq_cell_no (by omega), eσ17, zq_up_same] <;> rfl
      rw [if_neg j2]
      by_cases j3 : i = 3
      · rw [if_pos j3, j3, eσ38, zq_up_ne (by omega), eσ33, zq_up_ne (by omega), eσ31, zq_cell_no (by omega), eσ25, zq_up_same] <;> rfl
      rw [if_neg j3]
      by_cases j4 : i = 4
      · rw [if_pos j4, j4, eσ38, zq_up_ne (by omega), eσ33, zq_up_same] <;> rfl
      rw [if_neg j4]
      rw [eσ38, zq_up_ne (by omega), eσ33, zq_up_ne (by omega), eσ31, zq_cell_no (by omega), eσ25, zq_up_ne (by omega), eσ23, zq_cell_no (by omega), eσ17, zq_up_ne (by omega), eσ15, zq_cell_no (by omega), eσ9, zq_up_ne (by omega), eσ7, zq_cell_no (by omega)]
      exact q0 i
    by_cases s135 : 135 ≤ x ∧ x ≤ 135
    · rw [show x = 135 by omega]
      rw [zc_Ie135 (rfl : zc_kd 135 = 135)]
      rw [eσ38, zq_up_ne (by omega), eσ33, zq_up_ne (by omega), eσ31, zq_cell_no (by omega), eσ25, zq_up_ne (by omega), eσ23, zq_cell_no (by omega), eσ17, zq_up_ne (by omega), eσ15, zq_cell_no (by omega), eσ9, zq_up_ne (by omega), eσ7, zq_cell_at]; rfl
    by_cases s136 : 136 ≤ x ∧ x ≤ 136
    · rw [show x = 136 by omega]
      rw [zc_Ie136 (rfl : zc_kd 136 = 136)]
      rw [eσ38, zq_up_ne (by omega), eσ33, zq_up_ne (by omega), eσ31, zq_cell_no (by omega), eσ25, zq_up_ne (by omega), eσ23, zq_cell_no (by omega), eσ17, zq_up_ne (by omega), eσ15, zq_cell_at]; rfl
    by_cases s137 : 137 ≤ x ∧ x ≤ 137
    · rw [show x = 137 by omega]
      rw [zc_Ie137 (rfl : zc_kd 137 = 137)]
      rw [eσ38, zq_up_ne (by omega), eσ33, zq_up_ne (by omega), eσ31, zq_cell_no (by omega), eσ25, zq_up_ne (by omega), eσ23, zq_cell_at]; rfl
    by_cases s138 : 138 ≤ x ∧ x ≤ 138
    · rw [show x = 138 by omega]
      rw [zc_Ie138 (rfl : zc_kd 138 = 138)]
      rw [eσ38, zq_up_ne (by omega), eσ33, zq_up_ne (by omega), eσ31, zq_cell_at]; rfl
    exfalso; omega
  · intro x i h
    rw [eσ38, zq_up_ne (by omega), eσ33, zq_up_ne (by omega), eσ31, zq_cell_no (by omega), eσ25, zq_up_ne (by omega), eσ23, zq_cell_no (by omega), eσ17, zq_up_ne (by omega), eσ15, zq_cell_no (by omega), eσ9, zq_up_ne (by omega), eσ7, zq_cell_no (by omega)]
set_option maxHeartbeats 800000 in
theorem c_X10_init_141 {σ : zq_S} (q0 : ∀ i, σ 141 i = zq_df 10 i) : zq_C zc_w yX10_init cX10_init 1 (none) 2 40 142 147 [ZR 141] σ (zq_pv (fun τ => (∀ x i, 141 ≤ x → x ≤ 146 → τ x i = zc_I x i) ∧ (∀ x i, x < 141 ∨ 146 < x → τ x i = σ x i))) := by
  refine zq_C_of (by decide) (by decide) (Nat.le_of_ble_eq_true rfl) [some (ZR 141)] rfl (fun V hV => ?_)
  refine zr_aload_n (pc := 0) hV dX10_init_0 rfl rfl ?_
  refine zr_callN (pc := 1) hV [] (st := []) (c_X0_init 142 141) dX10_init_1 iX10_5 (by decide) (Nat.le_of_ble_eq_true rfl) (by decide) (fun σ1 qσ1 => ?_)
  rw [qσ1]
  refine zr_aload_n (pc := 4) hV dX10_init_4 rfl rfl ?_
  refine zr_bipush (pc := 5) hV 8 dX10_init_5 (by decide) ?_
  refine zr_newa (pc := 7) hV 8 dX10_init_7 rfl rfl carr (zc_k142 (rfl : zc_kd 142 = 142)) (by decide) (fun σ7 eσ7 => ?_)
  have eσ7 : σ7 = zq_cell σ 142 (fun _ => 0) := eσ7
  show V 9 [some (ZR 141)] [ZR 142, ZR 141] 143 σ7
  refine zr_putR (pc := 9) hV 1 dX10_init_9 fX10_11 rfl (Or.inr ⟨rfl, rfl⟩) rfl (by decide) (zc_k141 (rfl : zc_kd 141 = 141)) ⟨by decide, by decide⟩ (fun σ9 eσ9 => ?_)
  refine zr_aload_n (pc := 12) hV dX10_init_12 rfl rfl ?_
  refine zr_sipush (pc := 13) hV 256 dX10_init_13 (by decide) ?_
  refine zr_newa (pc := 16) hV 256 dX10_init_16 rfl rfl carr (zc_k143 (rfl : zc_kd 143 = 143)) (by decide) (fun σ16 eσ16 => ?_)
  have eσ16 : σ16 = zq_cell σ9 143 (fun _ => 0) := eσ16
  show V 18 [some (ZR 141)] [ZR 143, ZR 141] 144 σ16
  refine zr_putR (pc := 18) hV 2 dX10_init_18 fX10_15 rfl (Or.inr ⟨rfl, rfl⟩) rfl (by decide) (zc_k141 (rfl : zc_kd 141 = 141)) ⟨by decide, by decide⟩ (fun σ18 eσ18 => ?_)
  refine zr_aload_n (pc := 21) hV dX10_init_21 rfl rfl ?_
  refine zr_iconst (pc := 22) hV 4 dX10_init_22 rfl ?_
  refine zr_newa (pc := 23) hV 4 dX10_init_23 rfl rfl carr (zc_k144 (rfl : zc_kd 144 = 144)) (by decide) (fun σ23 eσ23 => ?_)
  have eσ23 : σ23 = zq_cell σ18 144 (fun _ => 0) := eσ23
  show V 25 [some (ZR 141)] [ZR 144, ZR 141] 145 σ23
  refine zr_putR (pc := 25) hV 5 dX10_init_25 fX10_18 rfl (Or.inr ⟨rfl, rfl⟩) rfl (by decide) (zc_k141 (rfl : zc_kd 141 = 141)) ⟨by decide, by decide⟩ (fun σ25 eσ25 => ?_)
  refine zr_aload_n (pc := 28) hV dX10_init_28 rfl rfl ?_
  refine zr_iconst (pc := 29) hV 3 dX10_init_29 rfl ?_
  refine zr_newa (pc := 30) hV 3 dX10_init_30 rfl rfl carr (zc_k145 (rfl : zc_kd 145 = 145)) (by decide) (fun σ30 eσ30 => ?_)
  have eσ30 : σ30 = zq_cell σ25 145 (fun _ => 0) := eσ30
  show V 32 [some (ZR 141)] [ZR 145, ZR 141] 146 σ30
  refine zr_putR (pc := 32) hV 7 dX10_init_32 fX10_23 rfl (Or.inr ⟨rfl, rfl⟩) rfl (by decide) (zc_k141 (rfl : zc_kd 141 = 141)) ⟨by decide, by decide⟩ (fun σ32 eσ32 => ?_)
  refine zr_aload_n (pc := 35) hV dX10_init_35 rfl rfl ?_
  refine zr_iconst (pc := 36) hV 3 dX10_init_36 rfl ?_
  refine zr_newa (pc := 37) hV 3 dX10_init_37 rfl rfl carr (zc_k146 (rfl : zc_kd 146 = 146)) (by decide) (fun σ37 eσ37 => ?_)
  have eσ37 : σ37 = zq_cell σ32 146 (fun _ => 0) := eσ37
  show V 39 [some (ZR 141)] [ZR 146, ZR 141] 147 σ37
  refine zr_putR (pc := 39) hV 8 dX10_init_39 fX10_26 rfl (Or.inr ⟨rfl, rfl⟩) rfl (by decide) (zc_k141 (rfl : zc_kd 141 = 141)) ⟨by decide, by decide⟩ (fun σ39 eσ39 => ?_)
  refine zr_vret (pc := 42) hV dX10_init_42 rfl rfl ⟨rfl, ?_, ?_⟩
  · intro x i h1 h2
    by_cases s0 : x = 141
    · rw [s0]
      rw [zc_Ie141 (rfl : zc_kd 141 = 141)]
      unfold zc_I141
      by_cases j1 : i = 1
      · rw [if_pos j1, j1, eσ39, zq_up_ne (by omega), eσ37, zq_cell_no (by omega), eσ32, zq_up_ne (by omega), eσ30, zq_cell_no (by omega), eσ25, zq_up_ne (by omega), eσ23, zq_cell_no (by omega), eσ18, zq_up_ne (by omega), eσ16, zq_cell_no (by omega), eσ9, zq_up_same] <;> rfl
      rw [if_neg j1]
      by_cases j2 : i = 2
      · rw [if_pos j2, j2, eσ39, zq_up_ne (by omega), eσ37, zq_cell_no (by omega), eσ32, zq_up_ne (by omega), eσ30, zq_cell_no (by omega), eσ25, zq_up_ne (by omega), eσ23, zq_cell_no (by omega), eσ18, zq_up_same] <;> rfl
      rw [if_neg j2]
      by_cases j5 : i = 5
      · rw [if_pos j5, j5, eσ39, zq_up_ne (by omega), eσ37, zq_cell_no (by omega), eσ32, zq_up_ne (by omega), eσ30, zq_cell_no (by omega), eσ25, zq_up_same] <;> rfl
      rw [if_neg j5]
      by_cases j7 : i = 7
      · rw [if_pos j7, j7, eσ39, zq_up_ne (by omega), eσ37, zq_cell_no (by omega), eσ32, zq_up_same] <;> rfl
      rw [if_neg j7]
      by_cases j8 : i = 8
      · rw [if_pos j8, j8, eσ39, zq_up_same] <;> rfl
      rw [if_neg j8]
      rw [eσ39, zq_up_ne (by omega), eσ37, zq_cell_no (by omega), eσ32, zq_up_ne (by omega), eσ30, zq_cell_no (by omega), eσ25, zq_up_ne (by omega), eσ23, zq_cell_no (by omega), eσ18, zq_up_ne (by omega), eσ16, zq_cell_no (by omega), eσ9, zq_up_ne (by omega), eσ7, zq_cell_no (by omega)]
      exact q0 i
    by_cases s142 : 142 ≤ x ∧ x ≤ 142
    · rw [show x = 142 by omega]
      rw [zc_Ie142 (rfl : zc_kd 142 = 142)]
      rw [eσ39, zq_up_ne (by omega), eσ37, zq_cell_no (by omega), eσ32, zq_up_ne (by omega), eσ30, zq_cell_no (by omega), eσ25, zq_up_ne (by omega), eσ23, zq_cell_no (by omega), eσ18, zq_up_ne (by omega), eσ16, zq_cell_no (by omega), eσ9, zq_up_ne (by omega), eσ7, zq_cell_at]; rfl
    by_cases s143 : 143 ≤ x ∧ x ≤ 143
    · rw [show x = 143 by omega]
      rw [zc_Ie143 (rfl : zc_kd 143 = 143)]
      rw [eσ39, zq_up_ne (by omega), eσ37, zq_cell_no (by omega), eσ32, zq_up_ne (by omega), eσ30, zq_cell_no (by omega), eσ25, zq_up_ne (by omega), eσ23, zq_cell_no (by omega), eσ18, zq_up_ne (by omega), eσ16, zq_cell_at]; rfl
    by_cases s144 : 144 ≤ x ∧ x ≤ 144
    · rw [show x = 144 by omega]
      rw [zc_Ie144 (rfl : zc_kd 144 = 144)]
      rw [eσ39, zq_up_ne (by omega), eσ37, zq_cell_no (by omega), eσ32, zq_up_ne (by omega), eσ30, zq_cell_no (by omega), eσ25, zq_up_ne (by omega), eσ23, zq_cell_at]; rfl
    by_cases s145 : 145 ≤ x ∧ x ≤ 145
    · rw [show x = 145 by omega]
      rw [zc_Ie145 (rfl : zc_kd 145 = 145)]
      rw [eσ39, zq_up_ne (by omega), eσ37, zq_cell_no (by omega), eσ32, zq_up_ne (by omega), eσ30, zq_cell_at]; rfl
    by_cases s146 : 146 ≤ x ∧ x ≤ 146
    · rw [show x = 146 by omega]
      rw [zc_Ie146 (rfl : zc_kd 146 = 146)]
      rw [eσ39, zq_up_ne (by omega), eσ37, zq_cell_at]; rfl
    exfalso; omega
  · intro x i h
    rw [eσ39, zq_up_ne (by omega), eσ37, zq_cell_no (by omega), eσ32, zq_up_ne (by omega), eσ30, zq_cell_no (by omega), eσ25, zq_up_ne (by omega), eσ23, zq_cell_no (by omega), eσ18, zq_up_ne (by omega), eσ16, zq_cell_no (by omega), eσ9, zq_up_ne (by omega), eσ7, zq_cell_no (by omega)]
set_option maxHeartbeats 800000 in
theorem c_X10_init_147 {σ : zq_S} (q0 : ∀ i, σ 147 i = zq_df 10 i) : zq_C zc_w yX10_init cX10_init 1 (none) 2 40 148 153 [ZR 147] σ (zq_pv (fun τ => (∀ x i, 147 ≤ x → x ≤ 152 → τ x i = zc_I x i) ∧ (∀ x i, x < 147 ∨ 152 < x → τ x i = σ x i))) := by
  refine zq_C_of (by decide) (by decide) (Nat.le_of_ble_eq_true rfl) [some (ZR 147)] rfl (fun V hV => ?_)
  refine zr_aload_n (pc := 0) hV dX10_init_0 rfl rfl ?_
  refine zr_callN (pc := 1) hV [] (st := []) (c_X0_init 148 147) dX10_init_1 iX10_5 (by decide) (Nat.le_of_ble_eq_true rfl) (by decide) (fun σ1 qσ1 => ?_)
  rw [qσ1]
  refine zr_aload_n (pc := 4) hV dX10_init_4 rfl rfl ?_
  refine zr_bipush (pc := 5) hV 8 dX10_init_5 (by decide) ?_
  refine zr_newa (pc := 7) hV 8 dX10_init_7 rfl rfl carr (zc_k148 (rfl : zc_kd 148 = 148)) (by decide) (fun σ7 eσ7 => ?_)
  have eσ7 : σ7 = zq_cell σ 148 (fun _ => 0) := eσ7
  show V 9 [some (ZR 147)] [ZR 148, ZR 147] 149 σ7
  refine zr_putR (pc := 9) hV 1 dX10_init_9 fX10_11 rfl (Or.inr ⟨rfl, rfl⟩) rfl (by decide) (zc_k147 (rfl : zc_kd 147 = 147)) ⟨by decide, by decide⟩ (fun σ9 eσ9 => ?_)
  refine zr_aload_n (pc := 12) hV dX10_init_12 rfl rfl ?_
  refine zr_sipush (pc := 13) hV 256 dX10_init_13 (by decide) ?_
  refine zr_newa (pc := 16) hV 256 dX10_init_16 rfl rfl carr (zc_k149 (rfl : zc_kd 149 = 149)) (by decide) (fun σ16 eσ16 => ?_)
  have eσ16 : σ16 = zq_cell σ9 149 (fun _ => 0) := eσ16
  show V 18 [some (ZR 147)] [ZR 149, ZR 147] 150 σ16
  refine zr_putR (pc := 18) hV 2 dX10_init_18 fX10_15 rfl (Or.inr ⟨rfl, rfl⟩) rfl (by decide) (zc_k147 (rfl : zc_kd 147 = 147)) ⟨by decide, by decide⟩ (fun σ18 eσ18 => ?_)
  refine zr_aload_n (pc := 21) hV dX10_init_21 rfl rfl ?_
  refine zr_iconst (pc := 22) hV 4 dX10_init_22 rfl ?_
  refine zr_newa (pc := 23) hV 4 dX10_init_23 rfl rfl carr (zc_k150 (rfl : zc_kd 150 = 150)) (by decide) (fun σ23 eσ23 => ?_)
  have eσ23 : σ23 = zq_cell σ18 150 (fun _ => 0) := eσ23
  show V 25 [some (ZR 147)] [ZR 150, ZR 147] 151 σ23
  refine zr_putR (pc := 25) hV 5 dX10_init_25 fX10_18 rfl (Or.inr ⟨rfl, rfl⟩) rfl (by decide) (zc_k147 (rfl : zc_kd 147 = 147)) ⟨by decide, by decide⟩ (fun σ25 eσ25 => ?_)
  refine zr_aload_n (pc := 28) hV dX10_init_28 rfl rfl ?_
  refine zr_iconst (pc := 29) hV 3 dX10_init_29 rfl ?_
  refine zr_newa (pc := 30) hV 3 dX10_init_30 rfl rfl carr (zc_k151 (rfl : zc_kd 151 = 151)) (by decide) (fun σ30 eσ30 => ?_)
  have eσ30 : σ30 = zq_cell σ25 151 (fun _ => 0) := eσ30
  show V 32 [some (ZR 147)] [ZR 151, ZR 147] 152 σ30
  refine zr_putR (pc := 32) hV 7 dX10_init_32 fX10_23 rfl (Or.inr ⟨rfl, rfl⟩) rfl (by decide) (zc_k147 (rfl : zc_kd 147 = 147)) ⟨by decide, by decide⟩ (fun σ32 eσ32 => ?_)
  refine zr_aload_n (pc := 35) hV dX10_init_35 rfl rfl ?_
  refine zr_iconst (pc := 36) hV 3 dX10_init_36 rfl ?_
  refine zr_newa (pc := 37) hV 3 dX10_init_37 rfl rfl carr (zc_k152 (rfl : zc_kd 152 = 152)) (by decide) (fun σ37 eσ37 => ?_)
  have eσ37 : σ37 = zq_cell σ32 152 (fun _ => 0) := eσ37
  show V 39 [some (ZR 147)] [ZR 152, ZR 147] 153 σ37
  refine zr_putR (pc := 39) hV 8 dX10_init_39 fX10_26 rfl (Or.inr ⟨rfl, rfl⟩) rfl (by decide) (zc_k147 (rfl : zc_kd 147 = 147)) ⟨by decide, by decide⟩ (fun σ39 eσ39 => ?_)
  refine zr_vret (pc := 42) hV dX10_init_42 rfl rfl ⟨rfl, ?_, ?_⟩
  · intro x i h1 h2
    by_cases s0 : x = 147
    · rw [s0]
      rw [zc_Ie147 (rfl : zc_kd 147 = 147)]
      unfold zc_I147
      by_cases j1 : i = 1
      · rw [if_pos j1, j1, eσ39, zq_up_ne (by omega), eσ37, zq_cell_no (by omega), eσ32, zq_up_ne (by omega), eσ30, zq_cell_no (by omega), eσ25, zq_up_ne (by omega), eσ23, zq_cell_no (by omega), eσ18, zq_up_ne (by omega), eσ16, zq_cell_no (by omega), eσ9, zq_up_same] <;> rfl
      rw [if_neg j1]
      by_cases j2 : i = 2
      · rw [if_pos j2, j2, eσ39, zq_up_ne (by omega), eσ37, zq_cell_no (by omega), eσ32, zq_up_ne (by omega), eσ30, zq_cell_no (by omega), eσ25, zq_up_ne (by omega), eσ23, zq_cell_no (by omega), eσ18, zq_up_same] <;> rfl
      rw [if_neg j2]
      by_cases j5 : i = 5
      · rw [if_pos j5, j5, eσ39, zq_up_ne (by omega), eσ37, zq_cell_no (by omega), eσ32, zq_up_ne (by omega), eσ30, zq_cell_no (by omega), eσ25, zq_up_same] <;> rfl
      rw [if_neg j5]
      by_cases j7 : i = 7
      · rw [if_pos j7, j7, eσ39, zq_up_ne (by omega), eσ37, zq_cell_no (by omega), eσ32, zq_up_same] <;> rfl
      rw [if_neg j7]
      by_cases j8 : i = 8
      · rw [if_pos j8, j8, eσ39, zq_up_same] <;> rfl
      rw [if_neg j8]
      rw [eσ39, zq_up_ne (by omega), eσ37, zq_cell_no (by omega), eσ32, zq_up_ne (by omega), eσ30, zq_cell_no (by omega), eσ25, zq_up_ne (by omega), eσ23, zq_cell_no (by omega), eσ18, zq_up_ne (by omega), eσ16, zq_cell_no (by omega), eσ9, zq_up_ne (by omega), eσ7, zq_cell_no (by omega)]
      exact q0 i
    by_cases s148 : 148 ≤ x ∧ x ≤ 148
    · rw [show x = 148 by omega]
      rw [zc_Ie148 (rfl : zc_kd 148 = 148)]
      rw [eσ39, zq_up_ne (by omega), eσ37, zq_cell_no (by omega), eσ32, zq_up_ne (by omega), eσ30, zq_cell_no (by omega), eσ25, zq_up_ne (by omega), eσ23, zq_cell_no (by omega), eσ18, zq_up_ne (by omega), eσ16, zq_cell_no (by omega), eσ9, zq_up_ne (by omega), eσ7, zq_cell_at]; rfl
    by_cases s149 : 149 ≤ x ∧ x ≤ 149
    · rw [show x = 149 by omega]
      rw [zc_Ie149 (rfl : zc_kd 149 = 149)]
      rw [eσ39, zq_up_ne (by omega), eσ37, zq_cell_no (by omega), eσ32, zq_up_ne (by omega), eσ30, zq_cell_no (by omega), eσ25, zq_up_ne (by omega), eσ23, zq_cell_no (by omega), eσ18, zq_up_ne (by omega), eσ16, zq_cell_at]; rfl
    by_cases s150 : 150 ≤ x ∧ x ≤ 150
    · rw [show x = 150 by omega]
      rw [zc_Ie150 (rfl : zc_kd 150 = 150)]
      rw [eσ39, zq_up_ne (by omega), eσ37, zq_cell_no (by omega), eσ32, zq_up_ne (by omega), eσ30, zq_cell_no (by omega), eσ25, zq_up_ne (by omega), eσ23, zq_cell_at]; rfl
    by_cases s151 : 151 ≤ x ∧ x ≤ 151
    · rw [show x = 151 by omega]
      rw [zc_Ie151 (rfl : zc_kd 151 = 151)]
      rw [eσ39, zq_up_ne (by omega), eσ37, zq_cell_no (by omega), eσ32, zq_up_ne (by omega), eσ30, zq_cell_at]; rfl
    by_cases s152 : 152 ≤ x ∧ x ≤ 152
    · rw [show x = 152 by omega]
      rw [zc_Ie152 (rfl : zc_kd 152 = 152)]
      rw [eσ39, zq_up_ne (by omega), eσ37, zq_cell_at]; rfl
    exfalso; omega
  · intro x i h
    rw [eσ39, zq_up_ne (by omega), eσ37, zq_cell_no (by omega), eσ32, zq_up_ne (by omega), eσ30, zq_cell_no (by omega), eσ25, zq_up_ne (by omega), eσ23, zq_cell_no (by omega), eσ18, zq_up_ne (by omega), eσ16, zq_cell_no (by omega), eσ9, zq_up_ne (by omega), eσ7, zq_cell_no (by omega)]
set_option maxHeartbeats 800000 in
theorem c_X6_init_140 {σ : zq_S} (q0 : ∀ i, σ 140 i = zq_df 6 i) : zq_C zc_w yX6_init cX6_init 3 (none) 3 60 141 255 [ZR 140, ZR 3, ZR 139] σ (zq_pv (fun τ => (∀ x i, 140 ≤ x → x ≤ 254 → τ x i = zc_I x i) ∧ (∀ x i, x < 140 ∨ 254 < x → τ x i = σ x i))) := by
  refine zq_C_of (by decide) (by decide) (Nat.le_of_ble_eq_true rfl) [some (ZR 140), some (ZR 3), some (ZR 139)] rfl (fun V hV => ?_)
  refine zr_aload_n (pc := 0) hV dX6_init_0 rfl rfl ?_
  refine zr_objInit (pc := 1) hV dX6_init_1 lo6 lo_i lo_c (by decide) (by decide) ?_
  refine zr_aload_n (pc := 4) hV dX6_init_4 rfl rfl ?_
  refine zr_new (pc := 5) hV (ci := 10) dX6_init_5 rfl zq_tbX10 tyX10_ok ct10 cX6_13 ci10 cn10 (zc_k141 (rfl : zc_kd 141 = 141)) (by decide) (fun σ5 eσ5 => ?_)
  have eσ5 : σ5 = zq_cell σ 141 (zq_df 10) := eσ5
  show V 8 [some (ZR 140), some (ZR 3), some (ZR 139)] [ZR 141, ZR 140] 142 σ5
  refine zr_dup (pc := 8) hV dX6_init_8 (fun _ => rfl) ?_
  refine zr_callN (pc := 9) hV [] (st := [ZR 141, ZR 140]) (c_X10_init_141 (fun i => by rw [eσ5]; exact zq_cell_at _ _ _ _)) dX6_init_9 iX6_15 (by decide) (Nat.le_of_ble_eq_true rfl) (by decide) (fun σ9 qσ9 => ?_)
  obtain ⟨hσ9, fσ9⟩ := qσ9
  show V 12 [some (ZR 140), some (ZR 3), some (ZR 139)] [ZR 141, ZR 140] 147 σ9
  refine zr_putR (pc := 12) hV 2 dX6_init_12 fX6_16 rfl (Or.inr ⟨rfl, rfl⟩) rfl (by decide) (zc_k140 (rfl : zc_kd 140 = 140)) ⟨by decide, by decide⟩ (fun σ12 eσ12 => ?_)
  refine zr_aload_n (pc := 15) hV dX6_init_15 rfl rfl ?_
  refine zr_new (pc := 16) hV (ci := 10) dX6_init_16 rfl zq_tbX10 tyX10_ok ct10 cX6_13 ci10 cn10 (zc_k147 (rfl : zc_kd 147 = 147)) (by decide) (fun σ16 eσ16 => ?_)
  have eσ16 : σ16 = zq_cell σ12 147 (zq_df 10) := eσ16
  show V 19 [some (ZR 140), some (ZR 3), some (ZR 139)] [ZR 147, ZR 140] 148 σ16
  refine zr_dup (pc := 19) hV dX6_init_19 (fun _ => rfl) ?_
  refine zr_callN (pc := 20) hV [] (st := [ZR 147, ZR 140]) (c_X10_init_147 (fun i => by rw [eσ16]; exact zq_cell_at _ _ _ _)) dX6_init_20 iX6_15 (by decide) (Nat.le_of_ble_eq_true rfl) (by decide) (fun σ20 qσ20 => ?_)
  obtain ⟨hσ20, fσ20⟩ := qσ20
  show V 23 [some (ZR 140), some (ZR 3), some (ZR 139)] [ZR 147, ZR 140] 153 σ20
  refine zr_putR (pc := 23) hV 3 dX6_init_23 fX6_20 rfl (Or.inr ⟨rfl, rfl⟩) rfl (by decide) (zc_k140 (rfl : zc_kd 140 = 140)) ⟨by decide, by decide⟩ (fun σ23 eσ23 => ?_)
  refine zr_aload_n (pc := 26) hV dX6_init_26 rfl rfl ?_
  refine zr_bipush (pc := 27) hV 100 dX6_init_27 (by decide) ?_
  refine zr_bipush (pc := 29) hV 13 dX6_init_29 (by decide) ?_
  refine zr_mna (pc := 31) hV 100 13 dX6_init_31 rfl rfl rfl rfl cX6_23 carr (zc_k153 (rfl : zc_kd 153 = 153)) (fun j hj => zc_k154 (by have := zc_e154 (i := (j : Int)) (by omega) (by omega); rw [← this]; exact congrArg zc_kd (by omega))) (by decide) (fun σ31 h1σ31 h3σ31 h2σ31 gσ31 => ?_)
  have h1σ31 : ∀ i : Int, 0 ≤ i → i < 100 → σ31 153 i = 153 + 1 + i := h1σ31
  have h3σ31 : ∀ i : Int, ¬ (0 ≤ i ∧ i < 100) → σ31 153 i = -1 := h3σ31
  have h2σ31 : ∀ a i : Int, 153 < a → a ≤ 153 + 100 → σ31 a i = 0 := h2σ31
  have gσ31 : ∀ a i : Int, a < 153 ∨ 153 + 100 < a → σ31 a i = σ23 a i := gσ31
  show V 35 [some (ZR 140), some (ZR 3), some (ZR 139)] [ZR 153, ZR 140] 254 σ31
  refine zr_putR (pc := 35) hV 4 dX6_init_35 fX6_25 rfl (Or.inr ⟨rfl, rfl⟩) rfl (by decide) (zc_k140 (rfl : zc_kd 140 = 140)) ⟨by decide, by decide⟩ (fun σ35 eσ35 => ?_)
  refine zr_aload_n (pc := 38) hV dX6_init_38 rfl rfl ?_
  refine zr_bipush (pc := 39) hV 64 dX6_init_39 (by decide) ?_
  refine zr_newa (pc := 41) hV 64 dX6_init_41 rfl rfl carr (zc_k254 (rfl : zc_kd 254 = 254)) (by decide) (fun σ41 eσ41 => ?_)
  have eσ41 : σ41 = zq_cell σ35 254 (fun _ => 0) := eσ41
  show V 43 [some (ZR 140), some (ZR 3), some (ZR 139)] [ZR 254, ZR 140] 255 σ41
  refine zr_putR (pc := 43) hV 7 dX6_init_43 fX6_28 rfl (Or.inr ⟨rfl, rfl⟩) rfl (by decide) (zc_k140 (rfl : zc_kd 140 = 140)) ⟨by decide, by decide⟩ (fun σ43 eσ43 => ?_)
  refine zr_aload_n (pc := 46) hV dX6_init_46 rfl rfl ?_
  refine zr_aload_n (pc := 47) hV dX6_init_47 rfl rfl ?_
  refine zr_putR (pc := 48) hV 0 dX6_init_48 fX6_32 rfl (Or.inr ⟨rfl, rfl⟩) rfl (by decide) (zc_k140 (rfl : zc_kd 140 = 140)) ⟨by decide, by decide⟩ (fun σ48 eσ48 => ?_)
  refine zr_aload_n (pc := 51) hV dX6_init_51 rfl rfl ?_
  refine zr_aload_n (pc := 52) hV dX6_init_52 rfl rfl ?_
  refine zr_putR (pc := 53) hV 1 dX6_init_53 fX6_36 rfl (Or.inr ⟨rfl, rfl⟩) rfl (by decide) (zc_k140 (rfl : zc_kd 140 = 140)) ⟨by decide, by decide⟩ (fun σ53 eσ53 => ?_)
  refine zr_vret (pc := 56) hV dX6_init_56 rfl rfl ⟨rfl, ?_, ?_⟩
  · intro x i h1 h2
    by_cases s0 : x = 140
    · rw [s0]
      rw [zc_Ie140 (rfl : zc_kd 140 = 140)]
      unfold zc_I140
      by_cases j0 : i = 0
      · rw [if_pos j0, j0, eσ53, zq_up_ne (by omega), eσ48, zq_up_same] <;> rfl
      rw [if_neg j0]
      by_cases j1 : i = 1
      · rw [if_pos j1, j1, eσ53, zq_up_same] <;> rfl
      rw [if_neg j1]
      by_cases j2 : i = 2
      · rw [if_pos j2, j2, eσ53, zq_up_ne (by omega), eσ48, zq_up_ne (by omega), eσ43, zq_up_ne (by omega), eσ41, zq_cell_no (by omega), eσ35, zq_up_ne (by omega), gσ31 _ _ (by omega), eσ23, zq_up_ne (by omega), fσ20 _ _ (by omega), eσ16, zq_cell_no (by omega), eσ12, zq_up_same] <;> rfl
      rw [if_neg j2]
      by_cases j3 : i = 3
      · rw [if_pos j3, j3, eσ53, zq_up_ne (by omega), eσ48, zq_up_ne (by omega), eσ43, zq_up_ne (by omega), eσ41, zq_cell_no (by omega), eσ35, zq_up_ne (by omega), gσ31 _ _ (by omega), eσ23, zq_up_same] <;> rfl
      rw [if_neg j3]
      by_cases j4 : i = 4
      · rw [if_pos j4, j4, eσ53, zq_up_ne (by omega), eσ48, zq_up_ne (by omega), eσ43, zq_up_ne (by omega), eσ41, zq_cell_no (by omega), eσ35, zq_up_same] <;> rfl
      rw [if_neg j4]
      by_cases j7 : i = 7
      · rw [if_pos j7, j7, eσ53, zq_up_ne (by omega), eσ48, zq_up_ne (by omega), eσ43, zq_up_same] <;> rfl
      rw [if_neg j7]
      rw [eσ53, zq_up_ne (by omega), eσ48, zq_up_ne (by omega), eσ43, zq_up_ne (by omega), eσ41, zq_cell_no (by omega), eσ35, zq_up_ne (by omega), gσ31 _ _ (by omega), eσ23, zq_up_ne (by omega), fσ20 _ _ (by omega), eσ16, zq_cell_no (by omega), eσ12, zq_up_ne (by omega), fσ9 _ _ (by omega), eσ5, zq_cell_no (by omega)]
      exact q0 i
    by_cases s141 : 141 ≤ x ∧ x ≤ 146
    · rw [eσ53, zq_up_ne (by omega), eσ48, zq_up_ne (by omega), eσ43, zq_up_ne (by omega), eσ41, zq_cell_no (by omega), eσ35, zq_up_ne (by omega), gσ31 _ _ (by omega), eσ23, zq_up_ne (by omega), fσ20 _ _ (by omega), eσ16, zq_cell_no (by omega), eσ12, zq_up_ne (by omega)]; exact hσ9 x i (by omega) (by omega)
    by_cases s147 : 147 ≤ x ∧ x ≤ 152
    · rw [eσ53, zq_up_ne (by omega), eσ48, zq_up_ne (by omega), eσ43, zq_up_ne (by omega), eσ41, zq_cell_no (by omega), eσ35, zq_up_ne (by omega), gσ31 _ _ (by omega), eσ23, zq_up_ne (by omega)]; exact hσ20 x i (by omega) (by omega)
    by_cases s153 : 153 ≤ x ∧ x ≤ 253
    · by_cases sr : x = 153
      · rw [sr, zc_Ie153 (rfl : zc_kd 153 = 153)]; unfold zc_I153
        by_cases jm : 0 ≤ i ∧ i < 100
        · rw [if_pos jm, eσ53, zq_up_ne (by omega), eσ48, zq_up_ne (by omega), eσ43, zq_up_ne (by omega), eσ41, zq_cell_no (by omega), eσ35, zq_up_ne (by omega), h1σ31 i jm.1 jm.2]; omega
        · rw [if_neg jm, eσ53, zq_up_ne (by omega), eσ48, zq_up_ne (by omega), eσ43, zq_up_ne (by omega), eσ41, zq_cell_no (by omega), eσ35, zq_up_ne (by omega)]; exact h3σ31 i jm
      · rw [eσ53, zq_up_ne (by omega), eσ48, zq_up_ne (by omega), eσ43, zq_up_ne (by omega), eσ41, zq_cell_no (by omega), eσ35, zq_up_ne (by omega), h2σ31 x i (by omega) (by omega), zc_Ie154 (show zc_kd x = 154 by have := zc_e154 (i := x - 154) (by omega) (by omega); rw [← this]; exact congrArg zc_kd (by omega))]; rfl
    by_cases s254 : 254 ≤ x ∧ x ≤ 254
    · rw [show x = 254 by omega]
      rw [zc_Ie254 (rfl : zc_kd 254 = 254)]
      rw [eσ53, zq_up_ne (by omega), eσ48, zq_up_ne (by omega), eσ43, zq_up_ne (by omega), eσ41, zq_cell_at]; rfl
    exfalso; omega
  · intro x i h
    rw [eσ53, zq_up_ne (by omega), eσ48, zq_up_ne (by omega), eσ43, zq_up_ne (by omega), eσ41, zq_cell_no (by omega), eσ35, zq_up_ne (by omega), gσ31 _ _ (by omega), eσ23, zq_up_ne (by omega), fσ20 _ _ (by omega), eσ16, zq_cell_no (by omega), eσ12, zq_up_ne (by omega), fσ9 _ _ (by omega), eσ5, zq_cell_no (by omega)]
set_option maxHeartbeats 800000 in
theorem c_X7_init_256 {σ : zq_S} (q0 : ∀ i, σ 256 i = zq_df 7 i) : zq_C zc_w yX7_init cX7_init 1 (none) 1 20 257 264 [ZR 256] σ (zq_pv (fun τ => (∀ x i, 256 ≤ x → x ≤ 263 → τ x i = zc_I x i) ∧ (∀ x i, x < 256 ∨ 263 < x → τ x i = σ x i))) := by
  refine zq_C_of (by decide) (by decide) (Nat.le_of_ble_eq_true rfl) [some (ZR 256)] rfl (fun V hV => ?_)
  refine zr_aload_n (pc := 0) hV dX7_init_0 rfl rfl ?_
  refine zr_objInit (pc := 1) hV dX7_init_1 lo7 lo_i lo_c (by decide) (by decide) ?_
  refine zr_aload_n (pc := 4) hV dX7_init_4 rfl rfl ?_
  refine zr_bipush (pc := 5) hV 39 dX7_init_5 (by decide) ?_
  refine zr_newa (pc := 7) hV 39 dX7_init_7 rfl rfl carr (zc_k257 (rfl : zc_kd 257 = 257)) (by decide) (fun σ7 eσ7 => ?_)
  have eσ7 : σ7 = zq_cell σ 257 (fun _ => 0) := eσ7
  show V 9 [some (ZR 256)] [ZR 257, ZR 256] 258 σ7
  refine zr_putR (pc := 9) hV 0 dX7_init_9 fX7_9 rfl (Or.inr ⟨rfl, rfl⟩) rfl (by decide) (zc_k256 (rfl : zc_kd 256 = 256)) ⟨by decide, by decide⟩ (fun σ9 eσ9 => ?_)
  refine zr_aload_n (pc := 12) hV dX7_init_12 rfl rfl ?_
  refine zr_bipush (pc := 13) hV 39 dX7_init_13 (by decide) ?_
  refine zr_newa (pc := 15) hV 39 dX7_init_15 rfl rfl carr (zc_k258 (rfl : zc_kd 258 = 258)) (by decide) (fun σ15 eσ15 => ?_)
  have eσ15 : σ15 = zq_cell σ9 258 (fun _ => 0) := eσ15
  show V 17 [some (ZR 256)] [ZR 258, ZR 256] 259 σ15
  refine zr_putR (pc := 17) hV 1 dX7_init_17 fX7_13 rfl (Or.inr ⟨rfl, rfl⟩) rfl (by decide) (zc_k256 (rfl : zc_kd 256 = 256)) ⟨by decide, by decide⟩ (fun σ17 eσ17 => ?_)
  refine zr_aload_n (pc := 20) hV dX7_init_20 rfl rfl ?_
  refine zr_bipush (pc := 21) hV 39 dX7_init_21 (by decide) ?_
  refine zr_newa (pc := 23) hV 39 dX7_init_23 rfl rfl carr (zc_k259 (rfl : zc_kd 259 = 259)) (by decide) (fun σ23 eσ23 => ?_)
  have eσ23 : σ23 = zq_cell σ17 259 (fun _ => 0) := eσ23
  show V 25 [some (ZR 256)] [ZR 259, ZR 256] 260 σ23
  refine zr_putR (pc := 25) hV 2 dX7_init_25 fX7_16 rfl (Or.inr ⟨rfl, rfl⟩) rfl (by decide) (zc_k256 (rfl : zc_kd 256 = 256)) ⟨by decide, by decide⟩ (fun σ25 eσ25 => ?_)
  refine zr_aload_n (pc := 28) hV dX7_init_28 rfl rfl ?_
  refine zr_bipush (pc := 29) hV 39 dX7_init_29 (by decide) ?_
  refine zr_newa (pc := 31) hV 39 dX7_init_31 rfl rfl carr (zc_k260 (rfl : zc_kd 260 = 260)) (by decide) (fun σ31 eσ31 => ?_)
  have eσ31 : σ31 = zq_cell σ25 260 (fun _ => 0) := eσ31
  show V 33 [some (ZR 256)] [ZR 260, ZR 256] 261 σ31
  refine zr_putR (pc := 33) hV 3 dX7_init_33 fX7_19 rfl (Or.inr ⟨rfl, rfl⟩) rfl (by decide) (zc_k256 (rfl : zc_kd 256 = 256)) ⟨by decide, by decide⟩ (fun σ33 eσ33 => ?_)
  refine zr_aload_n (pc := 36) hV dX7_init_36 rfl rfl ?_
  refine zr_bipush (pc := 37) hV 39 dX7_init_37 (by decide) ?_
  refine zr_newa (pc := 39) hV 39 dX7_init_39 rfl rfl carr (zc_k261 (rfl : zc_kd 261 = 261)) (by decide) (fun σ39 eσ39 => ?_)
  have eσ39 : σ39 = zq_cell σ33 261 (fun _ => 0) := eσ39
  show V 41 [some (ZR 256)] [ZR 261, ZR 256] 262 σ39
  refine zr_putR (pc := 41) hV 4 dX7_init_41 fX7_22 rfl (Or.inr ⟨rfl, rfl⟩) rfl (by decide) (zc_k256 (rfl : zc_kd 256 = 256)) ⟨by decide, by decide⟩ (fun σ41 eσ41 => ?_)
  refine zr_aload_n (pc := 44) hV dX7_init_44 rfl rfl ?_
  refine zr_bipush (pc := 45) hV 7 dX7_init_45 (by decide) ?_
  refine zr_newa (pc := 47) hV 7 dX7_init_47 rfl rfl carr (zc_k262 (rfl : zc_kd 262 = 262)) (by decide) (fun σ47 eσ47 => ?_)
  have eσ47 : σ47 = zq_cell σ41 262 (fun _ => 0) := eσ47
  show V 49 [some (ZR 256)] [ZR 262, ZR 256] 263 σ47
  refine zr_putR (pc := 49) hV 7 dX7_init_49 fX7_25 rfl (Or.inr ⟨rfl, rfl⟩) rfl (by decide) (zc_k256 (rfl : zc_kd 256 = 256)) ⟨by decide, by decide⟩ (fun σ49 eσ49 => ?_)
  refine zr_aload_n (pc := 52) hV dX7_init_52 rfl rfl ?_
  refine zr_bipush (pc := 53) hV 7 dX7_init_53 (by decide) ?_
  refine zr_newa (pc := 55) hV 7 dX7_init_55 rfl rfl carr (zc_k263 (rfl : zc_kd 263 = 263)) (by decide) (fun σ55 eσ55 => ?_)
  have eσ55 : σ55 = zq_cell σ49 263 (fun _ => 0) := eσ55
  show V 57 [some (ZR 256)] [ZR 263, ZR 256] 264 σ55
  refine zr_putR (pc := 57) hV 8 dX7_init_57 fX7_28 rfl (Or.inr ⟨rfl, rfl⟩) rfl (by decide) (zc_k256 (rfl : zc_kd 256 = 256)) ⟨by decide, by decide⟩ (fun σ57 eσ57 => ?_)
  refine zr_vret (pc := 60) hV dX7_init_60 rfl rfl ⟨rfl, ?_, ?_⟩
  · intro x i h1 h2
    by_cases s0 : x = 256
    · rw [s0]
      rw [zc_Ie256 (rfl : zc_kd 256 = 256)]
      unfold zc_I256
      by_cases j0 : i = 0
      · rw [if_pos j0, j0, eσ57, zq_up_ne (by omega), eσ55, zq_cell_no (by omega), eσ49, zq_up_ne (by omega), eσ47, zq_cell_no (by omega), eσ41, zq_up_ne (by omega), eσ39, zq_cell_no (by omega), eσ33, zq_up_ne (by omega), eσ31, zq_cell_no (by omega), eσ25, zq_up_ne (by omega), eσ23, zq_cell_no (by omega), eσ17, zq_up_ne (by omega), eσ15, zq_cell_no (by omega), eσ9, zq_up_same] <;> rfl
      rw [if_neg j0]
      by_cases j1 : i = 1
      · rw [if_pos j1, j1, eσ57, zq_up_ne (by omega), eσ55, zq_cell_no (by omega), eσ49, zq_up_ne (by omega), eσ47, zq_cell_no (by omega), eσ41, zq_up_ne (by omega), eσ39, zq_cell_no (by omega), eσ33, zq_up_ne (by omega), eσ31, zq_cell_no (by omega), eσ25, zq_up_ne (by omega), eσ23, zq_cell_no (by omega), eσ17, zq_up_same] <;> rfl
      rw [if_neg j1]
      by_cases j2 : i = 2
      · rw [if_pos j2, j2, eσ57, zq_up_ne (by omega), eσ55, zq_cell_no (by omega), eσ49, zq_up_ne (by omega), eσ47, zq_cell_no (by omega), eσ41, zq_up_ne (by omega), eσ39, zq_cell_no (by omega), eσ33, zq_up_ne (by omega), eσ31, zq_cell_no (by omega), eσ25, zq_up_same] <;> rfl
      rw [if_neg j2]
      by_cases j3 : i = 3
      · rw [if_pos j3, j3, eσ57, zq_up_ne (by omega), eσ55, zq_cell_no (by omega), eσ49, zq_up_ne (by omega), eσ47, zq_cell_no (by omega), eσ41, zq_up_ne (by omega), eσ39, zq_cell_no (by omega), eσ33, zq_up_same] <;> rfl
      rw [if_neg j3]
      by_cases j4 : i = 4
      · rw [if_pos j4, j4, eσ57, zq_up_ne (by omega), eσ55, zq_cell_no (by omega), eσ49, zq_up_ne (by omega), eσ47, zq_cell_no (by omega), eσ41, zq_up_same] <;> rfl
      rw [if_neg j4]
      by_cases j7 : i = 7
      · rw [if_pos j7, j7, eσ57, zq_up_ne (by omega), eσ55, zq_cell_no (by omega), eσ49, zq_up_same] <;> rfl
      rw [if_neg j7]
      by_cases j8 : i = 8
      · rw [if_pos j8, j8, eσ57, zq_up_same] <;> rfl
      rw [if_neg j8]
      rw [eσ57, zq_up_ne (by omega), eσ55, zq_cell_no (by omega), eσ49, zq_up_ne (by omega), eσ47, zq_cell_no (by omega), eσ41, zq_up_ne (by omega), eσ39, zq_cell_no (by omega), eσ33, zq_up_ne (by omega), eσ31, zq_cell_no (by omega), eσ25, zq_up_ne (by omega), eσ23, zq_cell_no (by omega), eσ17, zq_up_ne (by omega), eσ15, zq_cell_no (by omega), eσ9, zq_up_ne (by omega), eσ7, zq_cell_no (by omega)]
      exact q0 i
    by_cases s257 : 257 ≤ x ∧ x ≤ 257
    · rw [show x = 257 by omega]
      rw [zc_Ie257 (rfl : zc_kd 257 = 257)]
      rw [eσ57, zq_up_ne (by omega), eσ55, zq_cell_no (by omega), eσ49, zq_up_ne (by omega), eσ47, zq_cell_no (by omega), eσ41, zq_up_ne (by omega), eσ39, zq_cell_no (by omega), eσ33, zq_up_ne (by omega), eσ31, zq_cell_no (by omega), eσ25, zq_up_ne (by omega), eσ23, zq_cell_no (by omega), eσ17, zq_up_ne (by omega), eσ15, zq_cell_no (by omega), eσ9, zq_up_ne (by omega), eσ7, zq_cell_at]; rfl
    by_cases s258 : 258 ≤ x ∧ x ≤ 258
    · rw [show x = 258 by omega]
      rw [zc_Ie258 (rfl : zc_kd 258 = 258)]
      rw [eσ57, zq_up_ne (by omega), eσ55, zq_cell_no (by omega), eσ49, zq_up_ne (by omega), eσ47, zq_cell_no (by omega), eσ41, zq_up_ne (by omega), eσ39, zq_cell_no (by omega), eσ33, zq_up_ne (by omega), eσ31, zq_cell_no (by omega), eσ25, zq_up_ne (by omega), eσ23, zq_cell_no (by omega), eσ17, zq_up_ne (by omega), eσ15, zq_cell_at]; rfl
    by_cases s259 : 259 ≤ x ∧ x ≤ 259
    · rw [show x = 259 by omega]
      rw [zc_Ie259 (rfl : zc_kd 259 = 259)]
      rw [eσ57, zq_up_ne (by omega), eσ55, zq_cell_no (by omega), eσ49, zq_up_ne (by omega), eσ47, zq_cell_no (by omega), eσ41, zq_up_ne (by omega), eσ39, zq_cell_no (by omega), eσ33, zq_up_ne (by omega), eσ31, zq_cell_no (by omega), eσ25, zq_up_ne (by omega), eσ23, zq_cell_at]; rfl
    by_cases s260 : 260 ≤ x ∧ x ≤ 260
    · rw [show x = 260 by omega]
      rw [zc_Ie260 (rfl : zc_kd 260 = 260)]
      rw [eσ57, zq_up_ne (by omega), eσ55, zq_cell_no (by omega), eσ49, zq_up_ne (by omega), eσ47, zq_cell_no (by omega), eσ41, zq_up_ne (by omega), eσ39, zq_cell_no (by omega), eσ33, zq_up_ne (by omega), eσ31, zq_cell_at]; rfl
    by_cases s261 : 261 ≤ x ∧ x ≤ 261
    · rw [show x = 261 by omega]
      rw [zc_Ie261 (rfl : zc_kd 261 = 261)]
      rw [eσ57, zq_up_ne (by omega), eσ55, zq_cell_no (by omega), eσ49, zq_up_ne (by omega), eσ47, zq_cell_no (by omega), eσ41, zq_up_ne (by omega), eσ39, zq_cell_at]; rfl
    by_cases s262 : 262 ≤ x ∧ x ≤ 262
    · rw [show x = 262 by omega]
      rw [zc_Ie262 (rfl : zc_kd 262 = 262)]
      rw [eσ57, zq_up_ne (by omega), eσ55, zq_cell_no (by omega), eσ49, zq_up_ne (by omega), eσ47, zq_cell_at]; rfl
    by_cases s263 : 263 ≤ x ∧ x ≤ 263
    · rw [show x = 263 by omega]
      rw [zc_Ie263 (rfl : zc_kd 263 = 263)]
      rw [eσ57, zq_up_ne (by omega), eσ55, zq_cell_at]; rfl
    exfalso; omega
  · intro x i h
    rw [eσ57, zq_up_ne (by omega), eσ55, zq_cell_no (by omega), eσ49, zq_up_ne (by omega), eσ47, zq_cell_no (by omega), eσ41, zq_up_ne (by omega), eσ39, zq_cell_no (by omega), eσ33, zq_up_ne (by omega), eσ31, zq_cell_no (by omega), eσ25, zq_up_ne (by omega), eσ23, zq_cell_no (by omega), eσ17, zq_up_ne (by omega), eσ15, zq_cell_no (by omega), eσ9, zq_up_ne (by omega), eσ7, zq_cell_no (by omega)]
set_option maxHeartbeats 800000 in
theorem c_X7_init_264 {σ : zq_S} (q0 : ∀ i, σ 264 i = zq_df 7 i) : zq_C zc_w yX7_init cX7_init 1 (none) 1 20 265 272 [ZR 264] σ (zq_pv (fun τ => (∀ x i, 264 ≤ x → x ≤ 271 → τ x i = zc_I x i) ∧ (∀ x i, x < 264 ∨ 271 < x → τ x i = σ x i))) := by
  refine zq_C_of (by decide) (by decide) (Nat.le_of_ble_eq_true rfl) [some (ZR 264)] rfl (fun V hV => ?_)
  refine zr_aload_n (pc := 0) hV dX7_init_0 rfl rfl ?_
  refine zr_objInit (pc := 1) hV dX7_init_1 lo7 lo_i lo_c (by decide) (by decide) ?_
  refine zr_aload_n (pc := 4) hV dX7_init_4 rfl rfl ?_
  refine zr_bipush (pc := 5) hV 39 dX7_init_5 (by decide) ?_
  refine zr_newa (pc := 7) hV 39 dX7_init_7 rfl rfl carr (zc_k257 (rfl : zc_kd 265 = 257)) (by decide) (fun σ7 eσ7 => ?_)
  have eσ7 : σ7 = zq_cell σ 265 (fun _ => 0) := eσ7
  show V 9 [some (ZR 264)] [ZR 265, ZR 264] 266 σ7
  refine zr_putR (pc := 9) hV 0 dX7_init_9 fX7_9 rfl (Or.inr ⟨rfl, rfl⟩) rfl (by decide) (zc_k256 (rfl : zc_kd 264 = 256)) ⟨by decide, by decide⟩ (fun σ9 eσ9 => ?_)
  refine zr_aload_n (pc := 12) hV dX7_init_12 rfl rfl ?_
  refine zr_bipush (pc := 13) hV 39 dX7_init_13 (by decide) ?_
  refine zr_newa (pc := 15) hV 39 dX7_init_15 rfl rfl carr (zc_k258 (rfl : zc_kd 266 = 258)) (by decide) (fun σ15 eσ15 => ?_)
  have eσ15 : σ15 = zq_cell σ9 266 (fun _ => 0) := eσ15
  show V 17 [some (ZR 264)] [ZR 266, ZR 264] 267 σ15
  refine zr_putR (pc := 17) hV 1 dX7_init_17 fX7_13 rfl (Or.inr ⟨rfl, rfl⟩) rfl (by decide) (zc_k256 (rfl : zc_kd 264 = 256)) ⟨by decide, by decide⟩ (fun σ17 eσ17 => ?_)
  refine zr_aload_n (pc := 20) hV dX7_init_20 rfl rfl ?_
  refine zr_bipush (pc := 21) hV 39 dX7_init_21 (by decide) ?_
  refine zr_newa (pc := 23) hV 39 dX7_init_23 rfl rfl carr (zc_k259 (rfl : zc_kd 267 = 259)) (by decide) (fun σ23 eσ23 => ?_)
  have eσ23 : σ23 = zq_cell σ17 267 (fun _ => 0) := eσ23
  show V 25 [some (ZR 264)] [ZR 267, ZR 264] 268 σ23
  refine zr_putR (pc := 25) hV 2 dX7_init_25 fX7_16 rfl (Or.inr ⟨rfl, rfl⟩) rfl (by decide) (zc_k256 (rfl : zc_kd 264 = 256)) ⟨by decide, by decide⟩ (fun σ25 eσ25 => ?_)
  refine zr_aload_n (pc := 28) hV dX7_init_28 rfl rfl ?_
  refine zr_bipush (pc := 29) hV 39 dX7_init_29 (by decide) ?_
  refine zr_newa (pc := 31) hV 39 dX7_init_31 rfl rfl carr (zc_k260 (rfl : zc_kd 268 = 260)) (by decide) (fun σ31 eσ31 => ?_)
  have eσ31 : σ31 = zq_cell σ25 268 (fun _ => 0) := eσ31
  show V 33 [some (ZR 264)] [ZR 268, ZR 264] 269 σ31
  refine zr_putR (pc := 33) hV 3 dX7_init_33 fX7_19 rfl (Or.inr ⟨rfl, rfl⟩) rfl (by decide) (zc_k256 (rfl : zc_kd 264 = 256)) ⟨by decide, by decide⟩ (fun σ33 eσ33 => ?_)
  refine zr_aload_n (pc := 36) hV dX7_init_36 rfl rfl ?_
  refine zr_bipush (pc := 37) hV 39 dX7_init_37 (by decide) ?_
  refine zr_newa (pc := 39) hV 39 dX7_init_39 rfl rfl carr (zc_k261 (rfl : zc_kd 269 = 261)) (by decide) (fun σ39 eσ39 => ?_)
  have eσ39 : σ39 = zq_cell σ33 269 (fun _ => 0) := eσ39
  show V 41 [some (ZR 264)] [ZR 269, ZR 264] 270 σ39
  refine zr_putR (pc := 41) hV 4 dX7_init_41 fX7_22 rfl (Or.inr ⟨rfl, rfl⟩) rfl (by decide) (zc_k256 (rfl : zc_kd 264 = 256)) ⟨by decide, by decide⟩ (fun σ41 eσ41 => ?_)
  refine zr_aload_n (pc := 44) hV dX7_init_44 rfl rfl ?_
  refine zr_bipush (pc := 45) hV 7 dX7_init_45 (by decide) ?_
  refine zr_newa (pc := 47) hV 7 dX7_init_47 rfl rfl carr (zc_k262 (rfl : zc_kd 270 = 262)) (by decide) (fun σ47 eσ47 => ?_)
  have eσ47 : σ47 = zq_cell σ41 270 (fun _ => 0) := eσ47
  show V 49 [some (ZR 264)] [ZR 270, ZR 264] 271 σ47
  refine zr_putR (pc := 49) hV 7 dX7_init_49 fX7_25 rfl (Or.inr ⟨rfl, rfl⟩) rfl (by decide) (zc_k256 (rfl : zc_kd 264 = 256)) ⟨by decide, by decide⟩ (fun σ49 eσ49 => ?_)
  refine zr_aload_n (pc := 52) hV dX7_init_52 rfl rfl ?_
  refine zr_bipush (pc := 53) hV 7 dX7_init_53 (by decide) ?_
  refine zr_newa (pc := 55) hV 7 dX7_init_55 rfl rfl carr (zc_k263 (rfl : zc_kd 271 = 263)) (by decide) (fun σ55 eσ55 => ?_)
  have eσ55 : σ55 = zq_cell σ49 271 (fun _ => 0) := eσ55
  show V 57 [some (ZR 264)] [ZR 271, ZR 264] 272 σ55
  refine zr_putR (pc := 57) hV 8 dX7_init_57 fX7_28 rfl (Or.inr ⟨rfl, rfl⟩) rfl (by decide) (zc_k256 (rfl : zc_kd 264 = 256)) ⟨by decide, by decide⟩ (fun σ57 eσ57 => ?_)
  refine zr_vret (pc := 60) hV dX7_init_60 rfl rfl ⟨rfl, ?_, ?_⟩
  · intro x i h1 h2
    by_cases s0 : x = 264
    · rw [s0]
      rw [zc_Ie256 (rfl : zc_kd 264 = 256)]
      unfold zc_I256
      by_cases j0 : i = 0
      · rw [if_pos j0, j0, eσ57, zq_up_ne (by omega), eσ55, zq_cell_no (by omega), eσ49, zq_up_ne (by omega), eσ47, zq_cell_no (by omega), eσ41, zq_up_ne (by omega), eσ39, zq_cell_no (by omega), eσ33, zq_up_ne (by omega), eσ31, zq_cell_no (by omega), eσ25, zq_up_ne (by omega), eσ23, zq_cell_no (by omega), eσ17, zq_up_ne (by omega), eσ15, zq_cell_no (by omega), eσ9, zq_up_same] <;> rfl
      rw [if_neg j0]
      by_cases j1 : i = 1
      · rw [if_pos j1, j1, eσ57, zq_up_ne (by omega), eσ55, zq_cell_no (by omega), eσ49, zq_up_ne (by omega), eσ47, zq_cell_no (by omega), eσ41, zq_up_ne (by omega), eσ39, zq_cell_no (by omega), eσ33, zq_up_ne (by omega), eσ31, zq_cell_no (by omega), eσ25, zq_up_ne (by omega), eσ23, zq_cell_no (by omega), eσ17, zq_up_same] <;> rfl
      rw [if_neg j1]
      by_cases j2 : i = 2
      · rw [if_pos j2, j2, eσ57, zq_up_ne (by omega), eσ55, zq_cell_no (by omega), eσ49, zq_up_ne (by omega), eσ47, zq_cell_no (by omega), eσ41, zq_up_ne (by omega), eσ39, zq_cell_no (by omega), eσ33, zq_up_ne (by omega), eσ31, zq_cell_no (by omega), eσ25, zq_up_same] <;> rfl
      rw [if_neg j2]
      by_cases j3 : i = 3
      · rw [if_pos j3, j3, eσ57, zq_up_ne (by omega), eσ55, zq_cell_no (by omega), eσ49, zq_up_ne (by omega), eσ47, zq_cell_no (by omega), eσ41, zq_up_ne (by omega), eσ39, zq_cell_no (by omega), eσ33, zq_up_same] <;> rfl
      rw [if_neg j3]
      by_cases j4 : i = 4
      · rw [if_pos j4, j4, eσ57, zq_up_ne (by omega), eσ55, zq_cell_no (by omega), eσ49, zq_up_ne (by omega), eσ47, zq_cell_no (by omega), eσ41, zq_up_same] <;> rfl
      rw [if_neg j4]
      by_cases j7 : i = 7
      · rw [if_pos j7, j7, eσ57, zq_up_ne (by omega), eσ55, zq_cell_no (by omega), eσ49, zq_up_same] <;> rfl
      rw [if_neg j7]
      by_cases j8 : i = 8
      · rw [if_pos j8, j8, eσ57, zq_up_same] <;> rfl
      rw [if_neg j8]
      rw [eσ57, zq_up_ne (by omega), eσ55, zq_cell_no (by omega), eσ49, zq_up_ne (by omega), eσ47, zq_cell_no (by omega), eσ41, zq_up_ne (by omega), eσ39, zq_cell_no (by omega), eσ33, zq_up_ne (by omega), eσ31, zq_cell_no (by omega), eσ25, zq_up_ne (by omega), eσ23, zq_cell_no (by omega), eσ17, zq_up_ne (by omega), eσ15, zq_cell_no (by omega), eσ9, zq_up_ne (by omega), eσ7, zq_cell_no (by omega)]
      exact q0 i
    by_cases s265 : 265 ≤ x ∧ x ≤ 265
    · rw [show x = 265 by omega]
      rw [zc_Ie257 (rfl : zc_kd 265 = 257)]
      rw [eσ57, zq_up_ne (by omega), eσ55, zq_cell_no (by omega), eσ49, zq_up_ne (by omega), eσ47, zq_cell_no (by omega), eσ41, zq_up_ne (by omega), eσ39, zq_cell_no (by omega), eσ33, zq_up_ne (by omega), eσ31, zq_cell_no (by omega), eσ25, zq_up_ne (by omega), eσ23, zq_cell_no (by omega), eσ17, zq_up_ne (by omega), eσ15, zq_cell_no (by omega), eσ9, zq_up_ne (by omega), eσ7, zq_cell_at]; rfl
    by_cases s266 : 266 ≤ x ∧ x ≤ 266
    · rw [show x = 266 by omega]
      rw [zc_Ie258 (rfl : zc_kd 266 = 258)]
      rw [eσ57, zq_up_ne (by omega), eσ55, zq_cell_no (by omega), eσ49, zq_up_ne (by omega), eσ47, zq_cell_no (by omega), eσ41, zq_up_ne (by omega), eσ39, zq_cell_no (by omega), eσ33, zq_up_ne (by omega), eσ31, zq_cell_no (by omega), eσ25, zq_up_ne (by omega), eσ23, zq_cell_no (by omega), eσ17, zq_up_ne (by omega), eσ15, zq_cell_at]; rfl
    by_cases s267 : 267 ≤ x ∧ x ≤ 267
    · rw [show x = 267 by omega]
      rw [zc_Ie259 (rfl : zc_kd 267 = 259)]
      rw [eσ57, zq_up_ne (by omega), eσ55, zq_cell_no (by omega), eσ49, zq_up_ne (by omega), eσ47, zq_cell_no (by omega), eσ41, zq_up_ne (by omega), eσ39, zq_cell_no (by omega), eσ33, zq_up_ne (by omega), eσ31, zq_cell_no (by omega), eσ25, zq_up_ne (by omega), eσ23, zq_cell_at]; rfl
    by_cases s268 : 268 ≤ x ∧ x ≤ 268
    · rw [show x = 268 by omega]
      rw [zc_Ie260 (rfl : zc_kd 268 = 260)]
      rw [eσ57, zq_up_ne (by omega), eσ55, zq_cell_no (by omega), eσ49, zq_up_ne (by omega), eσ47, zq_cell_no (by omega), eσ41, zq_up_ne (by omega), eσ39, zq_cell_no (by omega), eσ33, zq_up_ne (by omega), eσ31, zq_cell_at]; rfl
    by_cases s269 : 269 ≤ x ∧ x ≤ 269
    · rw [show x = 269 by omega]
      rw [zc_Ie261 (rfl : zc_kd 269 = 261)]
      rw [eσ57, zq_up_ne (by omega), eσ55, zq_cell_no (by omega), eσ49, zq_up_ne (by omega), eσ47, zq_cell_no (by omega), eσ41, zq_up_ne (by omega), eσ39, zq_cell_at]; rfl
    by_cases s270 : 270 ≤ x ∧ x ≤ 270
    · rw [show x = 270 by omega]
      rw [zc_Ie262 (rfl : zc_kd 270 = 262)]
      rw [eσ57, zq_up_ne (by omega), eσ55, zq_cell_no (by omega), eσ49, zq_up_ne (by omega), eσ47, zq_cell_at]; rfl
    by_cases s271 : 271 ≤ x ∧ x ≤ 271
    · rw [show x = 271 by omega]
      rw [zc_Ie263 (rfl : zc_kd 271 = 263)]
      rw [eσ57, zq_up_ne (by omega), eσ55, zq_cell_at]; rfl
    exfalso; omega
  · intro x i h
    rw [eσ57, zq_up_ne (by omega), eσ55, zq_cell_no (by omega), eσ49, zq_up_ne (by omega), eσ47, zq_cell_no (by omega), eσ41, zq_up_ne (by omega), eσ39, zq_cell_no (by omega), eσ33, zq_up_ne (by omega), eσ31, zq_cell_no (by omega), eσ25, zq_up_ne (by omega), eσ23, zq_cell_no (by omega), eσ17, zq_up_ne (by omega), eσ15, zq_cell_no (by omega), eσ9, zq_up_ne (by omega), eσ7, zq_cell_no (by omega)]
set_option maxHeartbeats 800000 in
theorem c_X1_init_255 {σ : zq_S} (q0 : ∀ i, σ 255 i = zq_df 1 i) : zq_C zc_w yX1_init cX1_init 2 (none) 2 40 256 276 [ZR 255, ZR 3] σ (zq_pv (fun τ => (∀ x i, 255 ≤ x → x ≤ 275 → τ x i = zc_I x i) ∧ (∀ x i, x < 255 ∨ 275 < x → τ x i = σ x i))) := by
  refine zq_C_of (by decide) (by decide) (Nat.le_of_ble_eq_true rfl) [some (ZR 255), some (ZR 3)] rfl (fun V hV => ?_)
  refine zr_aload_n (pc := 0) hV dX1_init_0 rfl rfl ?_
  refine zr_objInit (pc := 1) hV dX1_init_1 lo1 lo_i lo_c (by decide) (by decide) ?_
  refine zr_aload_n (pc := 4) hV dX1_init_4 rfl rfl ?_
  refine zr_new (pc := 5) hV (ci := 7) dX1_init_5 rfl zq_tbX7 tyX7_ok ct7 cX1_9 ci7 cn7 (zc_k256 (rfl : zc_kd 256 = 256)) (by decide) (fun σ5 eσ5 => ?_)
  have eσ5 : σ5 = zq_cell σ 256 (zq_df 7) := eσ5
  show V 8 [some (ZR 255), some (ZR 3)] [ZR 256, ZR 255] 257 σ5
  refine zr_dup (pc := 8) hV dX1_init_8 (fun _ => rfl) ?_
  refine zr_callN (pc := 9) hV [] (st := [ZR 256, ZR 255]) (c_X7_init_256 (fun i => by rw [eσ5]; exact zq_cell_at _ _ _ _)) dX1_init_9 iX1_11 (by decide) (Nat.le_of_ble_eq_true rfl) (by decide) (fun σ9 qσ9 => ?_)
  obtain ⟨hσ9, fσ9⟩ := qσ9
  show V 12 [some (ZR 255), some (ZR 3)] [ZR 256, ZR 255] 264 σ9
  refine zr_putR (pc := 12) hV 1 dX1_init_12 fX1_12 rfl (Or.inl rfl) rfl (by decide) (zc_k255 (rfl : zc_kd 255 = 255)) ⟨by decide, by decide⟩ (fun σ12 eσ12 => ?_)
  refine zr_aload_n (pc := 15) hV dX1_init_15 rfl rfl ?_
  refine zr_new (pc := 16) hV (ci := 7) dX1_init_16 rfl zq_tbX7 tyX7_ok ct7 cX1_9 ci7 cn7 (zc_k256 (rfl : zc_kd 264 = 256)) (by decide) (fun σ16 eσ16 => ?_)
  have eσ16 : σ16 = zq_cell σ12 264 (zq_df 7) := eσ16
  show V 19 [some (ZR 255), some (ZR 3)] [ZR 264, ZR 255] 265 σ16
  refine zr_dup (pc := 19) hV dX1_init_19 (fun _ => rfl) ?_
  refine zr_callN (pc := 20) hV [] (st := [ZR 264, ZR 255]) (c_X7_init_264 (fun i => by rw [eσ16]; exact zq_cell_at _ _ _ _)) dX1_init_20 iX1_11 (by decide) (Nat.le_of_ble_eq_true rfl) (by decide) (fun σ20 qσ20 => ?_)
  obtain ⟨hσ20, fσ20⟩ := qσ20
  show V 23 [some (ZR 255), some (ZR 3)] [ZR 264, ZR 255] 272 σ20
  refine zr_putR (pc := 23) hV 2 dX1_init_23 fX1_18 rfl (Or.inl rfl) rfl (by decide) (zc_k255 (rfl : zc_kd 255 = 255)) ⟨by decide, by decide⟩ (fun σ23 eσ23 => ?_)
  refine zr_aload_n (pc := 26) hV dX1_init_26 rfl rfl ?_
  refine zr_bipush (pc := 27) hV 39 dX1_init_27 (by decide) ?_
  refine zr_newa (pc := 29) hV 39 dX1_init_29 rfl rfl carr (zc_k272 (rfl : zc_kd 272 = 272)) (by decide) (fun σ29 eσ29 => ?_)
  have eσ29 : σ29 = zq_cell σ23 272 (fun _ => 0) := eσ29
  show V 31 [some (ZR 255), some (ZR 3)] [ZR 272, ZR 255] 273 σ29
  refine zr_putR (pc := 31) hV 5 dX1_init_31 fX1_21 rfl (Or.inr ⟨rfl, rfl⟩) rfl (by decide) (zc_k255 (rfl : zc_kd 255 = 255)) ⟨by decide, by decide⟩ (fun σ31 eσ31 => ?_)
  refine zr_aload_n (pc := 34) hV dX1_init_34 rfl rfl ?_
  refine zr_bipush (pc := 35) hV 39 dX1_init_35 (by decide) ?_
  refine zr_newa (pc := 37) hV 39 dX1_init_37 rfl rfl carr (zc_k273 (rfl : zc_kd 273 = 273)) (by decide) (fun σ37 eσ37 => ?_)
  have eσ37 : σ37 = zq_cell σ31 273 (fun _ => 0) := eσ37
  show V 39 [some (ZR 255), some (ZR 3)] [ZR 273, ZR 255] 274 σ37
  refine zr_putR (pc := 39) hV 6 dX1_init_39 fX1_25 rfl (Or.inr ⟨rfl, rfl⟩) rfl (by decide) (zc_k255 (rfl : zc_kd 255 = 255)) ⟨by decide, by decide⟩ (fun σ39 eσ39 => ?_)
  refine zr_aload_n (pc := 42) hV dX1_init_42 rfl rfl ?_
  refine zr_bipush (pc := 43) hV 39 dX1_init_43 (by decide) ?_
  refine zr_newa (pc := 45) hV 39 dX1_init_45 rfl rfl carr (zc_k274 (rfl : zc_kd 274 = 274)) (by decide) (fun σ45 eσ45 => ?_)
  have eσ45 : σ45 = zq_cell σ39 274 (fun _ => 0) := eσ45
  show V 47 [some (ZR 255), some (ZR 3)] [ZR 274, ZR 255] 275 σ45
  refine zr_putR (pc := 47) hV 7 dX1_init_47 fX1_28 rfl (Or.inr ⟨rfl, rfl⟩) rfl (by decide) (zc_k255 (rfl : zc_kd 255 = 255)) ⟨by decide, by decide⟩ (fun σ47 eσ47 => ?_)
  refine zr_aload_n (pc := 50) hV dX1_init_50 rfl rfl ?_
  refine zr_bipush (pc := 51) hV 64 dX1_init_51 (by decide) ?_
  refine zr_newa (pc := 53) hV 64 dX1_init_53 rfl rfl carr (zc_k275 (rfl : zc_kd 275 = 275)) (by decide) (fun σ53 eσ53 => ?_)
  have eσ53 : σ53 = zq_cell σ47 275 (fun _ => 0) := eσ53
  show V 55 [some (ZR 255), some (ZR 3)] [ZR 275, ZR 255] 276 σ53
  refine zr_putR (pc := 55) hV 8 dX1_init_55 fX1_31 rfl (Or.inr ⟨rfl, rfl⟩) rfl (by decide) (zc_k255 (rfl : zc_kd 255 = 255)) ⟨by decide, by decide⟩ (fun σ55 eσ55 => ?_)
  refine zr_aload_n (pc := 58) hV dX1_init_58 rfl rfl ?_
  refine zr_aload_n (pc := 59) hV dX1_init_59 rfl rfl ?_
  refine zr_putR (pc := 60) hV 0 dX1_init_60 fX1_34 rfl (Or.inr ⟨rfl, rfl⟩) rfl (by decide) (zc_k255 (rfl : zc_kd 255 = 255)) ⟨by decide, by decide⟩ (fun σ60 eσ60 => ?_)
  refine zr_vret (pc := 63) hV dX1_init_63 rfl rfl ⟨rfl, ?_, ?_⟩
  · intro x i h1 h2
    by_cases s0 : x = 255
    · rw [s0]
      rw [zc_Ie255 (rfl : zc_kd 255 = 255)]
      unfold zc_I255
      by_cases j0 : i = 0
      · rw [if_pos j0, j0, eσ60, zq_up_same] <;> rfl
      rw [if_neg j0]
      by_cases j1 : i = 1
      · rw [if_pos j1, j1, eσ60, zq_up_ne (by omega), eσ55, zq_up_ne (by omega), eσ53, zq_cell_no (by omega), eσ47, zq_up_ne (by omega), eσ45, zq_cell_no (by omega), eσ39, zq_up_ne (by omega), eσ37, zq_cell_no (by omega), eσ31, zq_up_ne (by omega), eσ29, zq_cell_no (by omega), eσ23, zq_up_ne (by omega), fσ20 _ _ (by omega), eσ16, zq_cell_no (by omega), eσ12, zq_up_same] <;> rfl
      rw [if_neg j1]
      by_cases j2 : i = 2
      · rw [if_pos j2, j2, eσ60, zq_up_ne (by omega), eσ55, zq_up_ne (by omega), eσ53, zq_cell_no (by omega), eσ47, zq_up_ne (by omega), eσ45, zq_cell_no (by omega), eσ39, zq_up_ne (by omega), eσ37, zq_cell_no (by omega), eσ31, zq_up_ne (by omega), eσ29, zq_cell_no (by omega), eσ23, zq_up_same] <;> rfl
      rw [if_neg j2]
      by_cases j5 : i = 5
      · rw [if_pos j5, j5, eσ60, zq_up_ne (by omega), eσ55, zq_up_ne (by omega), eσ53, zq_cell_no (by omega), eσ47, zq_up_ne (by omega), eσ45, zq_cell_no (by omega), eσ39, zq_up_ne (by omega), eσ37, zq_cell_no (by omega), eσ31, zq_up_same] <;> rfl
      rw [if_neg j5]
      by_cases j6 : i = 6
      · rw [if_pos j6, j6, eσ60, zq_up_ne (by omega), eσ55, zq_up_ne (by omega), eσ53, zq_cell_no (by omega), eσ47, zq_up_ne (by omega), eσ45, zq_cell_no (by omega), eσ39, zq_up_same] <;> rfl
      rw [if_neg j6]
      by_cases j7 : i = 7
      · rw [if_pos j7, j7, eσ60, zq_up_ne (by omega), eσ55, zq_up_ne (by omega), eσ53, zq_cell_no (by omega), eσ47, zq_up_same] <;> rfl
      rw [if_neg j7]
      by_cases j8 : i = 8
      · rw [if_pos j8, j8, eσ60, zq_up_ne (by omega), eσ55, zq_up_same] <;> rfl
      rw [if_neg j8]
      rw [eσ60, zq_up_ne (by omega), eσ55, zq_up_ne (by omega), eσ53, zq_cell_no (by omega), eσ47, zq_up_ne (by omega), eσ45, zq_cell_no (by omega), eσ39, zq_up_ne (by omega), eσ37, zq_cell_no (by omega), eσ31, zq_up_ne (by omega), eσ29, zq_cell_no (by omega), eσ23, zq_up_ne (by omega), fσ20 _ _ (by omega), eσ16, zq_cell_no (by omega), eσ12, zq_up_ne (by omega), fσ9 _ _ (by omega), eσ5, zq_cell_no (by omega)]
      exact q0 i
    by_cases s256 : 256 ≤ x ∧ x ≤ 263
    · rw [eσ60, zq_up_ne (by omega), eσ55, zq_up_ne (by omega), eσ53, zq_cell_no (by omega), eσ47, zq_up_ne (by omega), eσ45, zq_cell_no (by omega), eσ39, zq_up_ne (by omega), eσ37, zq_cell_no (by omega), eσ31, zq_up_ne (by omega), eσ29, zq_cell_no (by omega), eσ23, zq_up_ne (by omega), fσ20 _ _ (by omega), eσ16, zq_cell_no (by omega), eσ12, zq_up_ne (by omega)]; exact hσ9 x i (by omega) (by omega)
    by_cases s264 : 264 ≤ x ∧ x ≤ 271
    · rw [eσ60, zq_up_ne (by omega), eσ55, zq_up_ne (by omega), eσ53, zq_cell_no (by omega), eσ47, zq_up_ne (by omega), eσ45, zq_cell_no (by omega), eσ39, zq_up_ne (by omega), eσ37, zq_cell_no (by omega), eσ31, zq_up_ne (by omega), eσ29, zq_cell_no (by omega), eσ23, zq_up_ne (by omega)]; exact hσ20 x i (by omega) (by omega)
    by_cases s272 : 272 ≤ x ∧ x ≤ 272
    · rw [show x = 272 by omega]
      rw [zc_Ie272 (rfl : zc_kd 272 = 272)]
      rw [eσ60, zq_up_ne (by omega), eσ55, zq_up_ne (by omega), eσ53, zq_cell_no (by omega), eσ47, zq_up_ne (by omega), eσ45, zq_cell_no (by omega), eσ39, zq_up_ne (by omega), eσ37, zq_cell_no (by omega), eσ31, zq_up_ne (by omega), eσ29, zq_cell_at]; rfl
    by_cases s273 : 273 ≤ x ∧ x ≤ 273
    · rw [show x = 273 by omega]
      rw [zc_Ie273 (rfl : zc_kd 273 = 273)]
      rw [eσ60, zq_up_ne (by omega), eσ55, zq_up_ne (by omega), eσ53, zq_cell_no (by omega), eσ47, zq_up_ne (by omega), eσ45, zq_cell_no (by omega), eσ39, zq_up_ne (by omega), eσ37, zq_cell_at]; rfl
    by_cases s274 : 274 ≤ x ∧ x ≤ 274
    · rw [show x = 274 by omega]
      rw [zc_Ie274 (rfl : zc_kd 274 = 274)]
      rw [eσ60, zq_up_ne (by omega), eσ55, zq_up_ne (by omega), eσ53, zq_cell_no (by omega), eσ47, zq_up_ne (by omega), eσ45, zq_cell_at]; rfl
    by_cases s275 : 275 ≤ x ∧ x ≤ 275
    · rw [show x = 275 by omega]
      rw [zc_Ie275 (rfl : zc_kd 275 = 275)]
      rw [eσ60, zq_up_ne (by omega), eσ55, zq_up_ne (by omega), eσ53, zq_cell_at]; rfl
    exfalso; omega
  · intro x i h
    rw [eσ60, zq_up_ne (by omega), eσ55, zq_up_ne (by omega), eσ53, zq_cell_no (by omega), eσ47, zq_up_ne (by omega), eσ45, zq_cell_no (by omega), eσ39, zq_up_ne (by omega), eσ37, zq_cell_no (by omega), eσ31, zq_up_ne (by omega), eσ29, zq_cell_no (by omega), eσ23, zq_up_ne (by omega), fσ20 _ _ (by omega), eσ16, zq_cell_no (by omega), eσ12, zq_up_ne (by omega), fσ9 _ _ (by omega), eσ5, zq_cell_no (by omega)]
set_option maxHeartbeats 800000 in
theorem c_X5_init_276 {σ : zq_S} (q0 : ∀ i, σ 276 i = zq_df 5 i) : zq_C zc_w yX5_init cX5_init 1 (none) 1 23 277 284 [ZR 276] σ (zq_pv (fun τ => (∀ x i, 276 ≤ x → x ≤ 283 → τ x i = zc_I x i) ∧ (∀ x i, x < 276 ∨ 283 < x → τ x i = σ x i))) := by
  refine zq_C_of (by decide) (by decide) (Nat.le_of_ble_eq_true rfl) [some (ZR 276)] rfl (fun V hV => ?_)
  refine zr_aload_n (pc := 0) hV dX5_init_0 rfl rfl ?_
  refine zr_objInit (pc := 1) hV dX5_init_1 lo5 lo_i lo_c (by decide) (by decide) ?_
  refine zr_aload_n (pc := 4) hV dX5_init_4 rfl rfl ?_
  refine zr_iconst (pc := 5) hV 4 dX5_init_5 rfl ?_
  refine zr_newa (pc := 6) hV 4 dX5_init_6 rfl rfl carr (zc_k277 (rfl : zc_kd 277 = 277)) (by decide) (fun σ6 eσ6 => ?_)
  have eσ6 : σ6 = zq_cell σ 277 (fun _ => 0) := eσ6
  show V 8 [some (ZR 276)] [ZR 277, ZR 276] 278 σ6
  refine zr_putR (pc := 8) hV 0 dX5_init_8 fX5_11 rfl (Or.inr ⟨rfl, rfl⟩) rfl (by decide) (zc_k276 (rfl : zc_kd 276 = 276)) ⟨by decide, by decide⟩ (fun σ8 eσ8 => ?_)
  refine zr_aload_n (pc := 11) hV dX5_init_11 rfl rfl ?_
  refine zr_iconst (pc := 12) hV 4 dX5_init_12 rfl ?_
  refine zr_newa (pc := 13) hV 4 dX5_init_13 rfl rfl carr (zc_k278 (rfl : zc_kd 278 = 278)) (by decide) (fun σ13 eσ13 => ?_)
  have eσ13 : σ13 = zq_cell σ8 278 (fun _ => 0) := eσ13
  show V 15 [some (ZR 276)] [ZR 278, ZR 276] 279 σ13
  refine zr_putR (pc := 15) hV 1 dX5_init_15 fX5_15 rfl (Or.inr ⟨rfl, rfl⟩) rfl (by decide) (zc_k276 (rfl : zc_kd 276 = 276)) ⟨by decide, by decide⟩ (fun σ15 eσ15 => ?_)
  refine zr_aload_n (pc := 18) hV dX5_init_18 rfl rfl ?_
  refine zr_iconst (pc := 19) hV 4 dX5_init_19 rfl ?_
  refine zr_bipush (pc := 20) hV 30 dX5_init_20 (by decide) ?_
  refine zr_mna (pc := 22) hV 4 30 dX5_init_22 rfl rfl rfl rfl cX5_18 carr (zc_k279 (rfl : zc_kd 279 = 279)) (fun j hj => zc_k280 (by have := zc_e280 (i := (j : Int)) (by omega) (by omega); rw [← this]; exact congrArg zc_kd (by omega))) (by decide) (fun σ22 h1σ22 h3σ22 h2σ22 gσ22 => ?_)
  have h1σ22 : ∀ i : Int, 0 ≤ i → i < 4 → σ22 279 i = 279 + 1 + i := h1σ22
  have h3σ22 : ∀ i : Int, ¬ (0 ≤ i ∧ i < 4) → σ22 279 i = -1 := h3σ22
  have h2σ22 : ∀ a i : Int, 279 < a → a ≤ 279 + 4 → σ22 a i = 0 := h2σ22
  have gσ22 : ∀ a i : Int, a < 279 ∨ 279 + 4 < a → σ22 a i = σ15 a i := gσ22
  show V 26 [some (ZR 276)] [ZR 279, ZR 276] 284 σ22
  refine zr_putR (pc := 26) hV 2 dX5_init_26 fX5_20 rfl (Or.inr ⟨rfl, rfl⟩) rfl (by decide) (zc_k276 (rfl : zc_kd 276 = 276)) ⟨by decide, by decide⟩ (fun σ26 eσ26 => ?_)
  refine zr_aload_n (pc := 29) hV dX5_init_29 rfl rfl ?_
  refine zr_getR (pc := 30) hV 0 277 dX5_init_30 fX5_11 rfl rfl (zc_k276 (rfl : zc_kd 276 = 276)) ⟨by decide, by decide⟩ (by rw [eσ26, zq_up_ne (by omega), gσ22 _ _ (by omega), eσ15, zq_up_ne (by omega), eσ13, zq_cell_no (by omega), eσ8, zq_up_same]) (by decide) ?_
  refine zr_iconst (pc := 33) hV (-1) dX5_init_33 rfl ?_
  refine zr_callSv (pc := 34) hV [ZR 277, ZI (-1)] (st := []) (c_fill0 284 (σ := σ26) 277 (-1) (zc_k277 (rfl : zc_kd 277 = 277)) ⟨by decide, by decide⟩ rfl ⟨by decide, by decide⟩) dX5_init_34 mX5_23 (by decide) (Nat.le_of_ble_eq_true rfl) (Nat.le_refl _) (fun σ34 qσ34 => ?_)
  obtain ⟨hσ34, kσ34, gσ34⟩ := qσ34
  refine zr_vret (pc := 37) hV dX5_init_37 rfl rfl ⟨rfl, ?_, ?_⟩
  · intro x i h1 h2
    by_cases s0 : x = 276
    · rw [s0]
      rw [zc_Ie276 (rfl : zc_kd 276 = 276)]
      unfold zc_I276
      by_cases j0 : i = 0
      · rw [if_pos j0, j0, gσ34 _ _ (by omega), eσ26, zq_up_ne (by omega), gσ22 _ _ (by omega), eσ15, zq_up_ne (by omega), eσ13, zq_cell_no (by omega), eσ8, zq_up_same] <;> rfl
      rw [if_neg j0]
      by_cases j1 : i = 1
      · rw [if_pos j1, j1, gσ34 _ _ (by omega), eσ26, zq_up_ne (by omega), gσ22 _ _ (by omega), eσ15, zq_up_same] <;> rfl
      rw [if_neg j1]
      by_cases j2 : i = 2
      · rw [if_pos j2, j2, gσ34 _ _ (by omega), eσ26, zq_up_same] <;> rfl
      rw [if_neg j2]
      rw [gσ34 _ _ (by omega), eσ26, zq_up_ne (by omega), gσ22 _ _ (by omega), eσ15, zq_up_ne (by omega), eσ13, zq_cell_no (by omega), eσ8, zq_up_ne (by omega), eσ6, zq_cell_no (by omega)]
      exact q0 i
    by_cases s277 : 277 ≤ x ∧ x ≤ 277
    · rw [show x = 277 by omega]
      rw [zc_Ie277 (rfl : zc_kd 277 = 277)]
      unfold zc_I277
      by_cases jf : 0 ≤ i ∧ i < 4
      · rw [if_pos jf, hσ34 i jf]
      · rw [if_neg jf, kσ34 i jf, eσ26, zq_up_ne (by omega), gσ22 _ _ (by omega), eσ15, zq_up_ne (by omega), eσ13, zq_cell_no (by omega), eσ8, zq_up_ne (by omega), eσ6, zq_cell_at]
    by_cases s278 : 278 ≤ x ∧ x ≤ 278
    · rw [show x = 278 by omega]
      rw [zc_Ie278 (rfl : zc_kd 278 = 278)]
      rw [gσ34 _ _ (by omega), eσ26, zq_up_ne (by omega), gσ22 _ _ (by omega), eσ15, zq_up_ne (by omega), eσ13, zq_cell_at]; rfl
    by_cases s279 : 279 ≤ x ∧ x ≤ 283
    · by_cases sr : x = 279
      · rw [sr, zc_Ie279 (rfl : zc_kd 279 = 279)]; unfold zc_I279
        by_cases jm : 0 ≤ i ∧ i < 4
        · rw [if_pos jm, gσ34 _ _ (by omega), eσ26, zq_up_ne (by omega), h1σ22 i jm.1 jm.2]; omega
        · rw [if_neg jm, gσ34 _ _ (by omega), eσ26, zq_up_ne (by omega)]; exact h3σ22 i jm
      · rw [gσ34 _ _ (by omega), eσ26, zq_up_ne (by omega), h2σ22 x i (by omega) (by omega), zc_Ie280 (show zc_kd x = 280 by have := zc_e280 (i := x - 280) (by omega) (by omega); rw [← this]; exact congrArg zc_kd (by omega))]; rfl
    exfalso; omega
  · intro x i h
    rw [gσ34 _ _ (by omega), eσ26, zq_up_ne (by omega), gσ22 _ _ (by omega), eσ15, zq_up_ne (by omega), eσ13, zq_cell_no (by omega), eσ8, zq_up_ne (by omega), eσ6, zq_cell_no (by omega)]
