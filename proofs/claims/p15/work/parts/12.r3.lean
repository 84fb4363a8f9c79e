set_option maxHeartbeats 800000 in
theorem c_X12_fieldOf {σ : zq_S} (hσ : zx_T σ) (order bits field : Int) (q0 : 0 ≤ order ∧ order ≤ 20) (q1 : zq_in bits) (q2 : 0 ≤ field ∧ field ≤ 3) (q3 : zx_B σ order) : zq_C zx_w yX12_fieldOf cX12_fieldOf 6 (some .int) 0 0 41 41 [ZR 0, ZI order, ZI bits, ZI field] σ (zq_pp σ (fun r => 0 ≤ r ∧ r ≤ 255 ∧ (field ≤ 2 → r ≤ 7))) := by
  refine zq_C_of (by decide) (Nat.le_refl _) (Nat.le_of_ble_eq_true rfl) [some (ZR 0), some (ZI order), some (ZI bits), some (ZI field), none, none] rfl (fun V hV => ?_)
  have z0 := zx_cnt_0 σ order field
  have z00 := zx_g2 hσ
  have z000 := zx_p2_0
  have zz0 : zx_p2 (zx_cnt σ order field 0) = 1 := by rw [z0]; exact z000
  show V 0 [some (ZR 0), some (ZI order), some (ZI bits), some (ZI field), none, none] [] 41 σ
  refine zr_iconst (pc := 0) hV 0 dX12_fieldOf_0 rfl ?_
  refine zr_istore (pc := 1) hV [some (ZR 0), some (ZI order), some (ZI bits), some (ZI field), some (ZI 0), none] dX12_fieldOf_1 (by decide) rfl rfl ?_
  refine zr_iconst (pc := 3) hV 0 dX12_fieldOf_3 rfl ?_
  refine zr_istore (pc := 4) hV [some (ZR 0), some (ZI order), some (ZI bits), some (ZI field), some (ZI 0), some (ZI 0)] dX12_fieldOf_4 (by decide) rfl rfl ?_
  have L6 : ∀ (fuel : Nat) (x4_6 : Int) (x5_6 : Int), (0 ≤ x4_6 ∧ x4_6 ≤ 4095) → (0 ≤ x5_6 ∧ x5_6 ≤ 12) → (x4_6 < zx_p2 (zx_cnt σ order field x5_6)) → (x5_6 ≤ σ 0 2) → 12 - x5_6 < (fuel : Int) → V 6 [some (ZR 0), some (ZI order), some (ZI bits), some (ZI field), some (ZI x4_6), some (ZI x5_6)] [] 41 σ := by
    intro fuel
    induction fuel with
    | zero =>
      intro x4_6 x5_6 hx4_6 hx5_6 hi6_0 hi6_1 hm6
      exfalso; omega
    | succ fuel ih =>
      intro x4_6 x5_6 hx4_6 hx5_6 hi6_0 hi6_1 hm6
      have ih6 := ih
      show V 6 [some (ZR 0), some (ZI order), some (ZI bits), some (ZI field), some (ZI x4_6), some (ZI x5_6)] [] 41 σ
      refine zr_iload (pc := 6) hV dX12_fieldOf_6 rfl ?_
      refine zr_aload_n (pc := 8) hV dX12_fieldOf_8 rfl rfl ?_
      refine zr_getI (pc := 9) hV 2 dX12_fieldOf_9 fX12_16 rfl rfl rfl (by decide) ?_
      have t1 := zx_g2 hσ
      refine zr_icmp_ge (pc := 12) hV 64 dX12_fieldOf_12 (by decide) (by omega) (by omega) (fun c2 => ?_) (fun c2 => ?_)
      · show V 64 [some (ZR 0), some (ZI order), some (ZI bits), some (ZI field), some (ZI x4_6), some (ZI x5_6)] [] 41 σ
        have zr : x4_6 < zx_p2 (zx_cnt σ order field (σ 0 2)) := by rw [show σ 0 2 = x5_6 by omega]; exact hi6_0
        have zs := zx_fld q3 q2 zr
        refine zr_iload (pc := 64) hV dX12_fieldOf_64 rfl ?_
        exact zr_iret (pc := 66) hV dX12_fieldOf_66 rfl rfl ⟨rfl, _, rfl, (by omega), ⟨by omega, zs.2, zs.1⟩⟩
      · show V 15 [some (ZR 0), some (ZI order), some (ZI bits), some (ZI field), some (ZI x4_6), some (ZI x5_6)] [] 41 σ
        have z1 := zx_cnt_s σ order field x5_6 (by omega)
        have z2 := zx_cnt_b σ order field x5_6 (by omega)
        have z3 := zx_p2_s (zx_cnt σ order field x5_6) (by omega)
        have z4 := zx_p2_le (m := zx_cnt σ order field x5_6) (n := 12) (by omega)
        have z5 : zx_cnt σ order field (x5_6 + 1) = zx_cnt σ order field x5_6 + 1 → zx_p2 (zx_cnt σ order field (x5_6 + 1)) = zx_p2 (zx_cnt σ order field x5_6 + 1) := fun h => by rw [h]
        have z6 : zx_cnt σ order field (x5_6 + 1) = zx_cnt σ order field x5_6 → zx_p2 (zx_cnt σ order field (x5_6 + 1)) = zx_p2 (zx_cnt σ order field x5_6) := fun h => by rw [h]
        have z7 := zx_p2_12
        have z8 := zx_cnt_b σ order field (x5_6 + 1) (by omega)
        have z9 := zx_p2_le (m := zx_cnt σ order field (x5_6 + 1)) (n := 12) (by omega)
        refine zr_aload_n (pc := 15) hV dX12_fieldOf_15 rfl rfl ?_
        refine zr_getR (pc := 16) hV 5 2 dX12_fieldOf_16 fX12_23 rfl rfl rfl (by decide) (zx_g5 hσ) (by omega) ?_
        refine zr_bipush (pc := 19) hV 12 dX12_fieldOf_19 (by decide) ?_
        refine zr_iload_n (pc := 21) hV dX12_fieldOf_21 rfl rfl ?_
        refine zr_imul (pc := 22) hV dX12_fieldOf_22 ?_
        refine zr_iload (pc := 23) hV dX12_fieldOf_23 rfl ?_
        refine zr_iadd (pc := 25) hV dX12_fieldOf_25 ?_
        refine zr_iald (pc := 26) hV dX12_fieldOf_26 rfl (by decide) rfl (by omega) ?_
        have t3 := zx_ga2 hσ ((12 * order) + x5_6)
        refine zr_iconst (pc := 27) hV 2 dX12_fieldOf_27 rfl ?_
        refine zr_iload_n (pc := 28) hV dX12_fieldOf_28 rfl rfl ?_
        refine zr_iadd (pc := 29) hV dX12_fieldOf_29 ?_
        refine zr_icmp_ne (pc := 30) hV 54 dX12_fieldOf_30 (by decide) (by omega) (by omega) (fun c4 => ?_) (fun c4 => ?_)
        · show V 54 [some (ZR 0), some (ZI order), some (ZI bits), some (ZI field), some (ZI x4_6), some (ZI x5_6)] [] 41 σ
          refine zr_iload (pc := 54) hV dX12_fieldOf_54 rfl ?_
          show V 56 [some (ZR 0), some (ZI order), some (ZI bits), some (ZI field), some (ZI x4_6), some (ZI x5_6)] [ZI x4_6] 41 σ
          refine zr_istore (pc := 56) hV [some (ZR 0), some (ZI order), some (ZI bits), some (ZI field), some (ZI x4_6), some (ZI x5_6)] dX12_fieldOf_56 (by decide) rfl rfl ?_
          refine zr_iinc (pc := 58) hV [some (ZR 0), some (ZI order), some (ZI bits), some (ZI field), some (ZI x4_6), some (ZI (x5_6 + 1))] (x5_6 + 1) dX12_fieldOf_58 rfl rfl (by decide) rfl rfl ?_
          refine zr_goto (pc := 61) hV 6 dX12_fieldOf_61 (by decide) ?_
          have t5 := zx_g2 hσ
          exact ih6 x4_6 (x5_6 + 1) (by omega) (by omega) (by omega) (by omega) (by omega)
        · show V 33 [some (ZR 0), some (ZI order), some (ZI bits), some (ZI field), some (ZI x4_6), some (ZI x5_6)] [] 41 σ
          refine zr_iconst (pc := 33) hV 2 dX12_fieldOf_33 rfl ?_
          refine zr_iload (pc := 34) hV dX12_fieldOf_34 rfl ?_
          refine zr_imul (pc := 36) hV dX12_fieldOf_36 ?_
          refine zr_iload_n (pc := 37) hV dX12_fieldOf_37 rfl rfl ?_
          refine zr_aload_n (pc := 38) hV dX12_fieldOf_38 rfl rfl ?_
          refine zr_getI (pc := 39) hV 2 dX12_fieldOf_39 fX12_16 rfl rfl rfl (by decide) ?_
          have t6 := zx_g2 hσ
          refine zr_iconst (pc := 42) hV 1 dX12_fieldOf_42 rfl ?_
          refine zr_isub (pc := 43) hV dX12_fieldOf_43 ?_
          refine zr_iload (pc := 44) hV dX12_fieldOf_44 rfl ?_
          refine zr_isub (pc := 46) hV dX12_fieldOf_46 ?_
          refine zr_ishr (pc := 47) hV dX12_fieldOf_47 ?_
          have t7 := zq_shr_in bits (((σ 0 2) - 1) - x5_6)
          refine zr_iconst (pc := 48) hV 1 dX12_fieldOf_48 rfl ?_
          refine zr_iand (pc := 49) hV dX12_fieldOf_49 ?_
          have t8 := zq_and_mask (zq_shr bits (((σ 0 2) - 1) - x5_6)) 1 1 2 (by decide) (by decide) (by decide)
          refine zr_iadd (pc := 50) hV dX12_fieldOf_50 ?_
          refine zr_goto (pc := 51) hV 56 dX12_fieldOf_51 (by decide) ?_
          show V 56 [some (ZR 0), some (ZI order), some (ZI bits), some (ZI field), some (ZI x4_6), some (ZI x5_6)] [ZI ((2 * x4_6) + (zq_and (zq_shr bits (((σ 0 2) - 1) - x5_6)) 1))] 41 σ
          refine zr_istore (pc := 56) hV [some (ZR 0), some (ZI order), some (ZI bits), some (ZI field), some (ZI ((2 * x4_6) + (zq_and (zq_shr bits (((σ 0 2) - 1) - x5_6)) 1))), some (ZI x5_6)] dX12_fieldOf_56 (by decide) rfl rfl ?_
          refine zr_iinc (pc := 58) hV [some (ZR 0), some (ZI order), some (ZI bits), some (ZI field), some (ZI ((2 * x4_6) + (zq_and (zq_shr bits (((σ 0 2) - 1) - x5_6)) 1))), some (ZI (x5_6 + 1))] (x5_6 + 1) dX12_fieldOf_58 rfl rfl (by decide) rfl rfl ?_
          refine zr_goto (pc := 61) hV 6 dX12_fieldOf_61 (by decide) ?_
          have t9 := zx_g2 hσ
          exact ih6 ((2 * x4_6) + (zq_and (zq_shr bits (((σ 0 2) - 1) - x5_6)) 1)) (x5_6 + 1) (by omega) (by omega) (by omega) (by omega) (by omega)
  have t10 := zx_g2 hσ
  exact L6 (12 - (0 : Int) + 1 : Int).toNat 0 0 (by omega) (by omega) (by omega) (by omega) (by omega)
set_option maxHeartbeats 800000 in
theorem c_X12_bitsOf {σ : zq_S} (hσ : zx_T σ) (o : Int) (q0 : 0 ≤ o ∧ o ≤ 20) : zq_C zx_w yX12_bitsOf cX12_bitsOf 10 (some .int) 1 24 41 41 [ZR 0, ZI o] σ (zq_pp σ (fun r => 0 ≤ r ∧ r < zx_p2 (σ 0 2) ∧ r ≤ 4095)) := by
  refine zq_C_of (by decide) (Nat.le_refl _) (Nat.le_of_ble_eq_true rfl) [some (ZR 0), some (ZI o), none, none, none, none, none, none, none, none] rfl (fun V hV => ?_)
  have z00 := zx_g2 hσ
  have z000 := zx_p2_0
  show V 0 [some (ZR 0), some (ZI o), none, none, none, none, none, none, none, none] [] 41 σ
  refine zr_iconst (pc := 0) hV 0 dX12_bitsOf_0 rfl ?_
  refine zr_istore_n (pc := 1) hV [some (ZR 0), some (ZI o), some (ZI 0), none, none, none, none, none, none, none] dX12_bitsOf_1 rfl (by decide) rfl rfl ?_
  refine zr_aload_n (pc := 2) hV dX12_bitsOf_2 rfl rfl ?_
  refine zr_iload_n (pc := 3) hV dX12_bitsOf_3 rfl rfl ?_
  refine zr_iconst (pc := 4) hV 0 dX12_bitsOf_4 rfl ?_
  refine zr_callVp (pc := 5) hV [ZI o, ZI 0] (st := []) (c_X12_fieldBits (σ := σ) hσ o 0 (by omega) (by omega)) dX12_bitsOf_5 mX12_184 rfl (by decide) (by decide) (Nat.le_of_ble_eq_true rfl) (Nat.le_refl _) (fun r5 hr5 pr5 => ?_)
  have t1 := zx_g2 hσ
  refine zr_istore_n (pc := 8) hV [some (ZR 0), some (ZI o), some (ZI 0), some (ZI r5), none, none, none, none, none, none] dX12_bitsOf_8 rfl (by decide) rfl rfl ?_
  refine zr_aload_n (pc := 9) hV dX12_bitsOf_9 rfl rfl ?_
  refine zr_iload_n (pc := 10) hV dX12_bitsOf_10 rfl rfl ?_
  refine zr_iconst (pc := 11) hV 1 dX12_bitsOf_11 rfl ?_
  refine zr_callVp (pc := 12) hV [ZI o, ZI 1] (st := []) (c_X12_fieldBits (σ := σ) hσ o 1 (by omega) (by omega)) dX12_bitsOf_12 mX12_184 rfl (by decide) (by decide) (Nat.le_of_ble_eq_true rfl) (Nat.le_refl _) (fun r12 hr12 pr12 => ?_)
  have t2 := zx_g2 hσ
  refine zr_istore (pc := 15) hV [some (ZR 0), some (ZI o), some (ZI 0), some (ZI r5), some (ZI r12), none, none, none, none, none] dX12_bitsOf_15 (by decide) rfl rfl ?_
  refine zr_aload_n (pc := 17) hV dX12_bitsOf_17 rfl rfl ?_
  refine zr_iload_n (pc := 18) hV dX12_bitsOf_18 rfl rfl ?_
  refine zr_iconst (pc := 19) hV 2 dX12_bitsOf_19 rfl ?_
  refine zr_callVp (pc := 20) hV [ZI o, ZI 2] (st := []) (c_X12_fieldBits (σ := σ) hσ o 2 (by omega) (by omega)) dX12_bitsOf_20 mX12_184 rfl (by decide) (by decide) (Nat.le_of_ble_eq_true rfl) (Nat.le_refl _) (fun r20 hr20 pr20 => ?_)
  have t3 := zx_g2 hσ
  refine zr_istore (pc := 23) hV [some (ZR 0), some (ZI o), some (ZI 0), some (ZI r5), some (ZI r12), some (ZI r20), none, none, none, none] dX12_bitsOf_23 (by decide) rfl rfl ?_
  refine zr_aload_n (pc := 25) hV dX12_bitsOf_25 rfl rfl ?_
  refine zr_iload_n (pc := 26) hV dX12_bitsOf_26 rfl rfl ?_
  refine zr_iconst (pc := 27) hV 3 dX12_bitsOf_27 rfl ?_
  refine zr_callVp (pc := 28) hV [ZI o, ZI 3] (st := []) (c_X12_fieldBits (σ := σ) hσ o 3 (by omega) (by omega)) dX12_bitsOf_28 mX12_184 rfl (by decide) (by decide) (Nat.le_of_ble_eq_true rfl) (Nat.le_refl _) (fun r28 hr28 pr28 => ?_)
  have t4 := zx_g2 hσ
  refine zr_istore (pc := 31) hV [some (ZR 0), some (ZI o), some (ZI 0), some (ZI r5), some (ZI r12), some (ZI r20), some (ZI r28), none, none, none] dX12_bitsOf_31 (by decide) rfl rfl ?_
  refine zr_iconst (pc := 33) hV 0 dX12_bitsOf_33 rfl ?_
  refine zr_istore (pc := 34) hV [some (ZR 0), some (ZI o), some (ZI 0), some (ZI r5), some (ZI r12), some (ZI r20), some (ZI r28), some (ZI 0), none, none] dX12_bitsOf_34 (by decide) rfl rfl ?_
  have L36 : ∀ (fuel : Nat) (x2_36 : Int) (x3_36 : Int) (x4_36 : Int) (x5_36 : Int) (x6_36 : Int) (x7_36 : Int), (0 ≤ x2_36 ∧ x2_36 ≤ 4095) → ((-12) ≤ x3_36 ∧ x3_36 ≤ 12) → ((-12) ≤ x4_36 ∧ x4_36 ≤ 12) → ((-12) ≤ x5_36 ∧ x5_36 ≤ 12) → ((-12) ≤ x6_36 ∧ x6_36 ≤ 12) → (0 ≤ x7_36 ∧ x7_36 ≤ 12) → (x2_36 < zx_p2 x7_36) → (x7_36 ≤ σ 0 2) → (0 ≤ x3_36 + x7_36) → (0 ≤ x4_36 + x7_36) → (0 ≤ x5_36 + x7_36) → (0 ≤ x6_36 + x7_36) → 12 - x7_36 < (fuel : Int) → V 36 [some (ZR 0), some (ZI o), some (ZI x2_36), some (ZI x3_36), some (ZI x4_36), some (ZI x5_36), some (ZI x6_36), some (ZI x7_36), none, none] [] 41 σ := by
    intro fuel
    induction fuel with
    | zero =>
      intro x2_36 x3_36 x4_36 x5_36 x6_36 x7_36 hx2_36 hx3_36 hx4_36 hx5_36 hx6_36 hx7_36 hi36_0 hi36_1 hi36_2 hi36_3 hi36_4 hi36_5 hm36
      exfalso; omega
    | succ fuel ih =>
      intro x2_36 x3_36 x4_36 x5_36 x6_36 x7_36 hx2_36 hx3_36 hx4_36 hx5_36 hx6_36 hx7_36 hi36_0 hi36_1 hi36_2 hi36_3 hi36_4 hi36_5 hm36
      have ih36 := ih
      show V 36 [some (ZR 0), some (ZI o), some (ZI x2_36), some (ZI x3_36), some (ZI x4_36), some (ZI x5_36), some (ZI x6_36), some (ZI x7_36), none, none] [] 41 σ
      refine zr_iload (pc := 36) hV dX12_bitsOf_36 rfl ?_
      refine zr_aload_n (pc := 38) hV dX12_bitsOf_38 rfl rfl ?_
      refine zr_getI (pc := 39) hV 2 dX12_bitsOf_39 fX12_16 rfl rfl rfl (by decide) ?_
      have t5 := zx_g2 hσ
      refine zr_icmp_ge (pc := 42) hV 172 dX12_bitsOf_42 (by decide) (by omega) (by omega) (fun c6 => ?_) (fun c6 => ?_)
      · show V 172 [some (ZR 0), some (ZI o), some (ZI x2_36), some (ZI x3_36), some (ZI x4_36), some (ZI x5_36), some (ZI x6_36), some (ZI x7_36), none, none] [] 41 σ
        refine zr_iload_n (pc := 172) hV dX12_bitsOf_172 rfl rfl ?_
        exact zr_iret (pc := 173) hV dX12_bitsOf_173 rfl rfl ⟨rfl, _, rfl, (by omega), ⟨by omega, by rw [show σ 0 2 = x7_36 by omega]; exact hi36_0, by omega⟩⟩
      · show V 45 [some (ZR 0), some (ZI o), some (ZI x2_36), some (ZI x3_36), some (ZI x4_36), some (ZI x5_36), some (ZI x6_36), some (ZI x7_36), none, none] [] 41 σ
        have z1 := zx_p2_s x7_36 (by omega)
        have z2 := zx_p2_le (m := x7_36 + 1) (n := 12) (by omega)
        have z3 := zx_p2_12
        refine zr_aload_n (pc := 45) hV dX12_bitsOf_45 rfl rfl ?_
        refine zr_getR (pc := 46) hV 5 2 dX12_bitsOf_46 fX12_23 rfl rfl rfl (by decide) (zx_g5 hσ) (by omega) ?_
        refine zr_bipush (pc := 49) hV 12 dX12_bitsOf_49 (by decide) ?_
        refine zr_iload_n (pc := 51) hV dX12_bitsOf_51 rfl rfl ?_
        refine zr_imul (pc := 52) hV dX12_bitsOf_52 ?_
        refine zr_iload (pc := 53) hV dX12_bitsOf_53 rfl ?_
        refine zr_iadd (pc := 55) hV dX12_bitsOf_55 ?_
        refine zr_iald (pc := 56) hV dX12_bitsOf_56 rfl (by decide) rfl (by omega) ?_
        have t7 := zx_ga2 hσ ((12 * o) + x7_36)
        refine zr_istore (pc := 57) hV [some (ZR 0), some (ZI o), some (ZI x2_36), some (ZI x3_36), some (ZI x4_36), some (ZI x5_36), some (ZI x6_36), some (ZI x7_36), some (ZI (σ 2 ((12 * o) + x7_36))), none] dX12_bitsOf_57 (by decide) rfl rfl ?_
        refine zr_iload (pc := 59) hV dX12_bitsOf_59 rfl ?_
        refine zr_istore (pc := 61) hV [some (ZR 0), some (ZI o), some (ZI x2_36), some (ZI x3_36), some (ZI x4_36), some (ZI x5_36), some (ZI x6_36), some (ZI x7_36), some (ZI (σ 2 ((12 * o) + x7_36))), some (ZI (σ 2 ((12 * o) + x7_36)))] dX12_bitsOf_61 (by decide) rfl rfl ?_
        refine zr_iload (pc := 63) hV dX12_bitsOf_63 rfl ?_
        refine zr_iconst (pc := 65) hV 2 dX12_bitsOf_65 rfl ?_
        refine zr_icmp_ne (pc := 66) hV 87 dX12_bitsOf_66 (by decide) (by omega) ⟨by decide, by decide⟩ (fun c8 => ?_) (fun c8 => ?_)
        · show V 87 [some (ZR 0), some (ZI o), some (ZI x2_36), some (ZI x3_36), some (ZI x4_36), some (ZI x5_36), some (ZI x6_36), some (ZI x7_36), some (ZI (σ 2 ((12 * o) + x7_36))), some (ZI (σ 2 ((12 * o) + x7_36)))] [] 41 σ
          refine zr_iload (pc := 87) hV dX12_bitsOf_87 rfl ?_
          refine zr_iconst (pc := 89) hV 3 dX12_bitsOf_89 rfl ?_
          refine zr_icmp_ne (pc := 90) hV 112 dX12_bitsOf_90 (by decide) (by omega) ⟨by decide, by decide⟩ (fun c9 => ?_) (fun c9 => ?_)
          · show V 112 [some (ZR 0), some (ZI o), some (ZI x2_36), some (ZI x3_36), some (ZI x4_36), some (ZI x5_36), some (ZI x6_36), some (ZI x7_36), some (ZI (σ 2 ((12 * o) + x7_36))), some (ZI (σ 2 ((12 * o) + x7_36)))] [] 41 σ
            refine zr_iload (pc := 112) hV dX12_bitsOf_112 rfl ?_
            refine zr_iconst (pc := 114) hV 4 dX12_bitsOf_114 rfl ?_
            refine zr_icmp_ne (pc := 115) hV 137 dX12_bitsOf_115 (by decide) (by omega) ⟨by decide, by decide⟩ (fun c10 => ?_) (fun c10 => ?_)
            · show V 137 [some (ZR 0), some (ZI o), some (ZI x2_36), some (ZI x3_36), some (ZI x4_36), some (ZI x5_36), some (ZI x6_36), some (ZI x7_36), some (ZI (σ 2 ((12 * o) + x7_36))), some (ZI (σ 2 ((12 * o) + x7_36)))] [] 41 σ
              refine zr_iload (pc := 137) hV dX12_bitsOf_137 rfl ?_
              refine zr_iconst (pc := 139) hV 5 dX12_bitsOf_139 rfl ?_
              refine zr_icmp_ne (pc := 140) hV 159 dX12_bitsOf_140 (by decide) (by omega) ⟨by decide, by decide⟩ (fun c11 => ?_) (fun c11 => ?_)
              · show V 159 [some (ZR 0), some (ZI o), some (ZI x2_36), some (ZI x3_36), some (ZI x4_36), some (ZI x5_36), some (ZI x6_36), some (ZI x7_36), some (ZI (σ 2 ((12 * o) + x7_36))), some (ZI (σ 2 ((12 * o) + x7_36)))] [] 41 σ
                refine zr_iconst (pc := 159) hV 2 dX12_bitsOf_159 rfl ?_
                refine zr_iload_n (pc := 160) hV dX12_bitsOf_160 rfl rfl ?_
                refine zr_imul (pc := 161) hV dX12_bitsOf_161 ?_
                refine zr_iload (pc := 162) hV dX12_bitsOf_162 rfl ?_
                refine zr_iadd (pc := 164) hV dX12_bitsOf_164 ?_
                refine zr_istore_n (pc := 165) hV [some (ZR 0), some (ZI o), some (ZI ((2 * x2_36) + (σ 2 ((12 * o) + x7_36)))), some (ZI x3_36), some (ZI x4_36), some (ZI x5_36), some (ZI x6_36), some (ZI x7_36), some (ZI (σ 2 ((12 * o) + x7_36))), some (ZI (σ 2 ((12 * o) + x7_36)))] dX12_bitsOf_165 rfl (by decide) rfl rfl ?_
                refine zr_iinc (pc := 166) hV [some (ZR 0), some (ZI o), some (ZI ((2 * x2_36) + (σ 2 ((12 * o) + x7_36)))), some (ZI x3_36), some (ZI x4_36), some (ZI x5_36), some (ZI x6_36), some (ZI (x7_36 + 1)), some (ZI (σ 2 ((12 * o) + x7_36))), some (ZI (σ 2 ((12 * o) + x7_36)))] (x7_36 + 1) dX12_bitsOf_166 rfl rfl (by decide) rfl rfl ?_
                refine zr_goto (pc := 169) hV 36 dX12_bitsOf_169 (by decide) ?_
                have t12 := zx_g2 hσ
                refine zr_sub (pc := 36) hV [some (ZR 0), some (ZI o), some (ZI ((2 * x2_36) + (σ 2 ((12 * o) + x7_36)))), some (ZI x3_36), some (ZI x4_36), some (ZI x5_36), some (ZI x6_36), some (ZI (x7_36 + 1)), none, none] (⟨rfl, rfl, rfl, rfl, rfl, rfl, rfl, rfl, trivial⟩) ?_
                exact ih36 ((2 * x2_36) + (σ 2 ((12 * o) + x7_36))) x3_36 x4_36 x5_36 x6_36 (x7_36 + 1) (by omega) (by omega) (by omega) (by omega) (by omega) (by omega) (by omega) (by omega) (by omega) (by omega) (by omega) (by omega) (by omega)
              · show V 143 [some (ZR 0), some (ZI o), some (ZI x2_36), some (ZI x3_36), some (ZI x4_36), some (ZI x5_36), some (ZI x6_36), some (ZI x7_36), some (ZI (σ 2 ((12 * o) + x7_36))), some (ZI (σ 2 ((12 * o) + x7_36)))] [] 41 σ
                refine zr_iinc (pc := 143) hV [some (ZR 0), some (ZI o), some (ZI x2_36), some (ZI x3_36), some (ZI x4_36), some (ZI x5_36), some (ZI (x6_36 + (-1))), some (ZI x7_36), some (ZI (σ 2 ((12 * o) + x7_36))), some (ZI (σ 2 ((12 * o) + x7_36)))] (x6_36 + (-1)) dX12_bitsOf_143 rfl rfl (by decide) rfl rfl ?_
                refine zr_aload_n (pc := 146) hV dX12_bitsOf_146 rfl rfl ?_
                refine zr_getR (pc := 147) hV 32 19 dX12_bitsOf_147 fX12_78 rfl rfl rfl (by decide) (zx_g32 hσ) (by omega) ?_
                refine zr_iconst (pc := 150) hV 3 dX12_bitsOf_150 rfl ?_
                refine zr_iald (pc := 151) hV dX12_bitsOf_151 rfl (by decide) rfl (by omega) ?_
                have t13 := zx_ga19 hσ 3
                refine zr_iload (pc := 152) hV dX12_bitsOf_152 rfl ?_
                refine zr_ishr (pc := 154) hV dX12_bitsOf_154 ?_
                have t14 := zq_shr_in (σ 19 3) (x6_36 + (-1))
                refine zr_iconst (pc := 155) hV 1 dX12_bitsOf_155 rfl ?_
                refine zr_iand (pc := 156) hV dX12_bitsOf_156 ?_
                have t15 := zq_and_mask (zq_shr (σ 19 3) (x6_36 + (-1))) 1 1 2 (by decide) (by decide) (by decide)
                refine zr_istore (pc := 157) hV [some (ZR 0), some (ZI o), some (ZI x2_36), some (ZI x3_36), some (ZI x4_36), some (ZI x5_36), some (ZI (x6_36 + (-1))), some (ZI x7_36), some (ZI (σ 2 ((12 * o) + x7_36))), some (ZI (zq_and (zq_shr (σ 19 3) (x6_36 + (-1))) 1))] dX12_bitsOf_157 (by decide) rfl rfl ?_
                show V 159 [some (ZR 0), some (ZI o), some (ZI x2_36), some (ZI x3_36), some (ZI x4_36), some (ZI x5_36), some (ZI (x6_36 + (-1))), some (ZI x7_36), some (ZI (σ 2 ((12 * o) + x7_36))), some (ZI (zq_and (zq_shr (σ 19 3) (x6_36 + (-1))) 1))] [] 41 σ
                refine zr_iconst (pc := 159) hV 2 dX12_bitsOf_159 rfl ?_
                refine zr_iload_n (pc := 160) hV dX12_bitsOf_160 rfl rfl ?_
                refine zr_imul (pc := 161) hV dX12_bitsOf_161 ?_
                refine zr_iload (pc := 162) hV dX12_bitsOf_162 rfl ?_
                refine zr_iadd (pc := 164) hV dX12_bitsOf_164 ?_
                refine zr_istore_n (pc := 165) hV [some (ZR 0), some (ZI o), some (ZI ((2 * x2_36) + (zq_and (zq_shr (σ 19 3) (x6_36 + (-1))) 1))), some (ZI x3_36), some (ZI x4_36), some (ZI x5_36), some (ZI (x6_36 + (-1))), some (ZI x7_36), some (ZI (σ 2 ((12 * o) + x7_36))), some (ZI (zq_and (zq_shr (σ 19 3) (x6_36 + (-1))) 1))] dX12_bitsOf_165 rfl (by decide) rfl rfl ?_
                refine zr_iinc (pc := 166) hV [some (ZR 0), some (ZI o), some (ZI ((2 * x2_36) + (zq_and (zq_shr (σ 19 3) (x6_36 + (-1))) 1))), some (ZI x3_36), some (ZI x4_36), some (ZI x5_36), some (ZI (x6_36 + (-1))), some (ZI (x7_36 + 1)), some (ZI (σ 2 ((12 * o) + x7_36))), some (ZI (zq_and (zq_shr (σ 19 3) (x6_36 + (-1))) 1))] (x7_36 + 1) dX12_bitsOf_166 rfl rfl (by decide) rfl rfl ?_
                refine zr_goto (pc := 169) hV 36 dX12_bitsOf_169 (by decide) ?_
                have t16 := zx_g2 hσ
                refine zr_sub (pc := 36) hV [some (ZR 0), some (ZI o), some (ZI ((2 * x2_36) + (zq_and (zq_shr (σ 19 3) (x6_36 + (-1))) 1))), some (ZI x3_36), some (ZI x4_36), some (ZI x5_36), some (ZI (x6_36 + (-1))), some (ZI (x7_36 + 1)), none, none] (⟨rfl, rfl, rfl, rfl, rfl, rfl, rfl, rfl, trivial⟩) ?_
                exact ih36 ((2 * x2_36) + (zq_and (zq_shr (σ 19 3) (x6_36 + (-1))) 1)) x3_36 x4_36 x5_36 (x6_36 + (-1)) (x7_36 + 1) (by omega) (by omega) (by omega) (by omega) (by omega) (by omega) (by omega) (by omega) (by omega) (by omega) (by omega) (by omega) (by omega)
            · show V 118 [some (ZR 0), some (ZI o), some (ZI x2_36), some (ZI x3_36), some (ZI x4_36), some (ZI x5_36), some (ZI x6_36), some (ZI x7_36), some (ZI (σ 2 ((12 * o) + x7_36))), some (ZI (σ 2 ((12 * o) + x7_36)))] [] 41 σ
              refine zr_iinc (pc := 118) hV [some (ZR 0), some (ZI o), some (ZI x2_36), some (ZI x3_36), some (ZI x4_36), some (ZI (x5_36 + (-1))), some (ZI x6_36), some (ZI x7_36), some (ZI (σ 2 ((12 * o) + x7_36))), some (ZI (σ 2 ((12 * o) + x7_36)))] (x5_36 + (-1)) dX12_bitsOf_118 rfl rfl (by decide) rfl rfl ?_
              refine zr_aload_n (pc := 121) hV dX12_bitsOf_121 rfl rfl ?_
              refine zr_getR (pc := 122) hV 32 19 dX12_bitsOf_122 fX12_78 rfl rfl rfl (by decide) (zx_g32 hσ) (by omega) ?_
              refine zr_iconst (pc := 125) hV 2 dX12_bitsOf_125 rfl ?_
              refine zr_iald (pc := 126) hV dX12_bitsOf_126 rfl (by decide) rfl (by omega) ?_
              have t17 := zx_ga19 hσ 2
              refine zr_iload (pc := 127) hV dX12_bitsOf_127 rfl ?_
              refine zr_ishr (pc := 129) hV dX12_bitsOf_129 ?_
              have t18 := zq_shr_in (σ 19 2) (x5_36 + (-1))
              refine zr_iconst (pc := 130) hV 1 dX12_bitsOf_130 rfl ?_
              refine zr_iand (pc := 131) hV dX12_bitsOf_131 ?_
              have t19 := zq_and_mask (zq_shr (σ 19 2) (x5_36 + (-1))) 1 1 2 (by decide) (by decide) (by decide)
              refine zr_istore (pc := 132) hV [some (ZR 0), some (ZI o), some (ZI x2_36), some (ZI x3_36), some (ZI x4_36), some (ZI (x5_36 + (-1))), some (ZI x6_36), some (ZI x7_36), some (ZI (σ 2 ((12 * o) + x7_36))), some (ZI (zq_and (zq_shr (σ 19 2) (x5_36 + (-1))) 1))] dX12_bitsOf_132 (by decide) rfl rfl ?_
              refine zr_goto (pc := 134) hV 159 dX12_bitsOf_134 (by decide) ?_
              show V 159 [some (ZR 0), some (ZI o), some (ZI x2_36), some (ZI x3_36), some (ZI x4_36), some (ZI (x5_36 + (-1))), some (ZI x6_36), some (ZI x7_36), some (ZI (σ 2 ((12 * o) + x7_36))), some (ZI (zq_and (zq_shr (σ 19 2) (x5_36 + (-1))) 1))] [] 41 σ
              refine zr_iconst (pc := 159) hV 2 dX12_bitsOf_159 rfl ?_
              refine zr_iload_n (pc := 160) hV dX12_bitsOf_160 rfl rfl ?_
              refine zr_imul (pc := 161) hV dX12_bitsOf_161 ?_
              refine zr_iload (pc := 162) hV dX12_bitsOf_162 rfl ?_
              refine zr_iadd (pc := 164) hV dX12_bitsOf_164 ?_
              refine zr_istore_n (pc := 165) hV [some (ZR 0), some (ZI o), some (ZI ((2 * x2_36) + (zq_and (zq_shr (σ 19 2) (x5_36 + (-1))) 1))), some (ZI x3_36), some (ZI x4_36), some (ZI (x5_36 + (-1))), some (ZI x6_36), some (ZI x7_36), some (ZI (σ 2 ((12 * o) + x7_36))), some (ZI (zq_and (zq_shr (σ 19 2) (x5_36 + (-1))) 1))] dX12_bitsOf_165 rfl (by decide) rfl rfl ?_
              refine zr_iinc (pc := 166) hV [some (ZR 0), some (ZI o), some (ZI ((2 * x2_36) + (zq_and (zq_shr (σ 19 2) (x5_36 + (-1))) 1))), some (ZI x3_36), some (ZI x4_36), some (ZI (x5_36 + (-1))), some (ZI x6_36), some (ZI (x7_36 + 1)), some (ZI (σ 2 ((12 * o) + x7_36))), some (ZI (zq_and (zq_shr (σ 19 2) (x5_36 + (-1))) 1))] (x7_36 + 1) dX12_bitsOf_166 rfl rfl (by decide) rfl rfl ?_
              refine zr_goto (pc := 169) hV 36 dX12_bitsOf_169 (by decide) ?_
              have t20 := zx_g2 hσ
              refine zr_sub (pc := 36) hV [some (ZR 0), some (ZI o), some (ZI ((2 * x2_36) + (zq_and (zq_shr (σ 19 2) (x5_36 + (-1))) 1))), some (ZI x3_36), some (ZI x4_36), some (ZI (x5_36 + (-1))), some (ZI x6_36), some (ZI (x7_36 + 1)), none, none] (⟨rfl, rfl, rfl, rfl, rfl, rfl, rfl, rfl, trivial⟩) ?_
              exact ih36 ((2 * x2_36) + (zq_and (zq_shr (σ 19 2) (x5_36 + (-1))) 1)) x3_36 x4_36 (x5_36 + (-1)) x6_36 (x7_36 + 1) (by omega) (by omega) (by omega) (by omega) (by omega) (by omega) (by omega) (by omega) (by omega) (by omega) (by omega) (by omega) (by omega)
          · show V 93 [some (ZR 0), some (ZI o), some (ZI x2_36), some (ZI x3_36), some (ZI x4_36), some (ZI x5_36), some (ZI x6_36), some (ZI x7_36), some (ZI (σ 2 ((12 * o) + x7_36))), some (ZI (σ 2 ((12 * o) + x7_36)))] [] 41 σ
            refine zr_iinc (pc := 93) hV [some (ZR 0), some (ZI o), some (ZI x2_36), some (ZI x3_36), some (ZI (x4_36 + (-1))), some (ZI x5_36), some (ZI x6_36), some (ZI x7_36), some (ZI (σ 2 ((12 * o) + x7_36))), some (ZI (σ 2 ((12 * o) + x7_36)))] (x4_36 + (-1)) dX12_bitsOf_93 rfl rfl (by decide) rfl rfl ?_
            refine zr_aload_n (pc := 96) hV dX12_bitsOf_96 rfl rfl ?_
            refine zr_getR (pc := 97) hV 32 19 dX12_bitsOf_97 fX12_78 rfl rfl rfl (by decide) (zx_g32 hσ) (by omega) ?_
            refine zr_iconst (pc := 100) hV 1 dX12_bitsOf_100 rfl ?_
            refine zr_iald (pc := 101) hV dX12_bitsOf_101 rfl (by decide) rfl (by omega) ?_
            have t21 := zx_ga19 hσ 1
            refine zr_iload (pc := 102) hV dX12_bitsOf_102 rfl ?_
            refine zr_ishr (pc := 104) hV dX12_bitsOf_104 ?_
            have t22 := zq_shr_in (σ 19 1) (x4_36 + (-1))
            refine zr_iconst (pc := 105) hV 1 dX12_bitsOf_105 rfl ?_
            refine zr_iand (pc := 106) hV dX12_bitsOf_106 ?_
            have t23 := zq_and_mask (zq_shr (σ 19 1) (x4_36 + (-1))) 1 1 2 (by decide) (by decide) (by decide)
            refine zr_istore (pc := 107) hV [some (ZR 0), some (ZI o), some (ZI x2_36), some (ZI x3_36), some (ZI (x4_36 + (-1))), some (ZI x5_36), some (ZI x6_36), some (ZI x7_36), some (ZI (σ 2 ((12 * o) + x7_36))), some (ZI (zq_and (zq_shr (σ 19 1) (x4_36 + (-1))) 1))] dX12_bitsOf_107 (by decide) rfl rfl ?_
            refine zr_goto (pc := 109) hV 159 dX12_bitsOf_109 (by decide) ?_
            show V 159 [some (ZR 0), some (ZI o), some (ZI x2_36), some (ZI x3_36), some (ZI (x4_36 + (-1))), some (ZI x5_36), some (ZI x6_36), some (ZI x7_36), some (ZI (σ 2 ((12 * o) + x7_36))), some (ZI (zq_and (zq_shr (σ 19 1) (x4_36 + (-1))) 1))] [] 41 σ
            refine zr_iconst (pc := 159) hV 2 dX12_bitsOf_159 rfl ?_
            refine zr_iload_n (pc := 160) hV dX12_bitsOf_160 rfl rfl ?_
            refine zr_imul (pc := 161) hV dX12_bitsOf_161 ?_
            refine zr_iload (pc := 162) hV dX12_bitsOf_162 rfl ?_
            refine zr_iadd (pc := 164) hV dX12_bitsOf_164 ?_
            refine zr_istore_n (pc := 165) hV [some (ZR 0), some (ZI o), some (ZI ((2 * x2_36) + (zq_and (zq_shr (σ 19 1) (x4_36 + (-1))) 1))), some (ZI x3_36), some (ZI (x4_36 + (-1))), some (ZI x5_36), some (ZI x6_36), some (ZI x7_36), some (ZI (σ 2 ((12 * o) + x7_36))), some (ZI (zq_and (zq_shr (σ 19 1) (x4_36 + (-1))) 1))] dX12_bitsOf_165 rfl (by decide) rfl rfl ?_
            refine zr_iinc (pc := 166) hV [some (ZR 0), some (ZI o), some (ZI ((2 * x2_36) + (zq_and (zq_shr (σ 19 1) (x4_36 + (-1))) 1))), some (ZI x3_36), some (ZI (x4_36 + (-1))), some (ZI x5_36), some (ZI x6_36), some (ZI (x7_36 + 1)), some (ZI (σ 2 ((12 * o) + x7_36))), some (ZI (zq_and (zq_shr (σ 19 1) (x4_36 + (-1))) 1))] (x7_36 + 1) dX12_bitsOf_166 rfl rfl (by decide) rfl rfl ?_
            refine zr_goto (pc := 169) hV 36 dX12_bitsOf_169 (by decide) ?_
            have t24 := zx_g2 hσ
            refine zr_sub (pc := 36) hV [some (ZR 0), some (ZI o), some (ZI ((2 * x2_36) + (zq_and (zq_shr (σ 19 1) (x4_36 + (-1))) 1))), some (ZI x3_36), some (ZI (x4_36 + (-1))), some (ZI x5_36), some (ZI x6_36), some (ZI (x7_36 + 1)), none, none] (⟨rfl, rfl, rfl, rfl, rfl, rfl, rfl, rfl, trivial⟩) ?_
            exact ih36 ((2 * x2_36) + (zq_and (zq_shr (σ 19 1) (x4_36 + (-1))) 1)) x3_36 (x4_36 + (-1)) x5_36 x6_36 (x7_36 + 1) (by omega) (by omega) (by omega) (by omega) (by omega) (by omega) (by omega) (by omega) (by omega) (by omega) (by omega) (by omega) (by omega)
        · show V 69 [some (ZR 0), some (ZI o), some (ZI x2_36), some (ZI x3_36), some (ZI x4_36), some (ZI x5_36), some (ZI x6_36), some (ZI x7_36), some (ZI (σ 2 ((12 * o) + x7_36))), some (ZI (σ 2 ((12 * o) + x7_36)))] [] 41 σ
          refine zr_iinc (pc := 69) hV [some (ZR 0), some (ZI o), some (ZI x2_36), some (ZI (x3_36 + (-1))), some (ZI x4_36), some (ZI x5_36), some (ZI x6_36), some (ZI x7_36), some (ZI (σ 2 ((12 * o) + x7_36))), some (ZI (σ 2 ((12 * o) + x7_36)))] (x3_36 + (-1)) dX12_bitsOf_69 rfl rfl (by decide) rfl rfl ?_
          refine zr_aload_n (pc := 72) hV dX12_bitsOf_72 rfl rfl ?_
          refine zr_getR (pc := 73) hV 32 19 dX12_bitsOf_73 fX12_78 rfl rfl rfl (by decide) (zx_g32 hσ) (by omega) ?_
          refine zr_iconst (pc := 76) hV 0 dX12_bitsOf_76 rfl ?_
          refine zr_iald (pc := 77) hV dX12_bitsOf_77 rfl (by decide) rfl (by omega) ?_
          have t25 := zx_ga19 hσ 0
          refine zr_iload_n (pc := 78) hV dX12_bitsOf_78 rfl rfl ?_
          refine zr_ishr (pc := 79) hV dX12_bitsOf_79 ?_
          have t26 := zq_shr_in (σ 19 0) (x3_36 + (-1))
          refine zr_iconst (pc := 80) hV 1 dX12_bitsOf_80 rfl ?_
          refine zr_iand (pc := 81) hV dX12_bitsOf_81 ?_
          have t27 := zq_and_mask (zq_shr (σ 19 0) (x3_36 + (-1))) 1 1 2 (by decide) (by decide) (by decide)
          refine zr_istore (pc := 82) hV [some (ZR 0), some (ZI o), some (ZI x2_36), some (ZI (x3_36 + (-1))), some (ZI x4_36), some (ZI x5_36), some (ZI x6_36), some (ZI x7_36), some (ZI (σ 2 ((12 * o) + x7_36))), some (ZI (zq_and (zq_shr (σ 19 0) (x3_36 + (-1))) 1))] dX12_bitsOf_82 (by decide) rfl rfl ?_
          refine zr_goto (pc := 84) hV 159 dX12_bitsOf_84 (by decide) ?_
          show V 159 [some (ZR 0), some (ZI o), some (ZI x2_36), some (ZI (x3_36 + (-1))), some (ZI x4_36), some (ZI x5_36), some (ZI x6_36), some (ZI x7_36), some (ZI (σ 2 ((12 * o) + x7_36))), some (ZI (zq_and (zq_shr (σ 19 0) (x3_36 + (-1))) 1))] [] 41 σ
          refine zr_iconst (pc := 159) hV 2 dX12_bitsOf_159 rfl ?_
          refine zr_iload_n (pc := 160) hV dX12_bitsOf_160 rfl rfl ?_
          refine zr_imul (pc := 161) hV dX12_bitsOf_161 ?_
          refine zr_iload (pc := 162) hV dX12_bitsOf_162 rfl ?_
          refine zr_iadd (pc := 164) hV dX12_bitsOf_164 ?_
          refine zr_istore_n (pc := 165) hV [some (ZR 0), some (ZI o), some (ZI ((2 * x2_36) + (zq_and (zq_shr (σ 19 0) (x3_36 + (-1))) 1))), some (ZI (x3_36 + (-1))), some (ZI x4_36), some (ZI x5_36), some (ZI x6_36), some (ZI x7_36), some (ZI (σ 2 ((12 * o) + x7_36))), some (ZI (zq_and (zq_shr (σ 19 0) (x3_36 + (-1))) 1))] dX12_bitsOf_165 rfl (by decide) rfl rfl ?_
          refine zr_iinc (pc := 166) hV [some (ZR 0), some (ZI o), some (ZI ((2 * x2_36) + (zq_and (zq_shr (σ 19 0) (x3_36 + (-1))) 1))), some (ZI (x3_36 + (-1))), some (ZI x4_36), some (ZI x5_36), some (ZI x6_36), some (ZI (x7_36 + 1)), some (ZI (σ 2 ((12 * o) + x7_36))), some (ZI (zq_and (zq_shr (σ 19 0) (x3_36 + (-1))) 1))] (x7_36 + 1) dX12_bitsOf_166 rfl rfl (by decide) rfl rfl ?_
          refine zr_goto (pc := 169) hV 36 dX12_bitsOf_169 (by decide) ?_
          have t28 := zx_g2 hσ
          refine zr_sub (pc := 36) hV [some (ZR 0), some (ZI o), some (ZI ((2 * x2_36) + (zq_and (zq_shr (σ 19 0) (x3_36 + (-1))) 1))), some (ZI (x3_36 + (-1))), some (ZI x4_36), some (ZI x5_36), some (ZI x6_36), some (ZI (x7_36 + 1)), none, none] (⟨rfl, rfl, rfl, rfl, rfl, rfl, rfl, rfl, trivial⟩) ?_
          exact ih36 ((2 * x2_36) + (zq_and (zq_shr (σ 19 0) (x3_36 + (-1))) 1)) (x3_36 + (-1)) x4_36 x5_36 x6_36 (x7_36 + 1) (by omega) (by omega) (by omega) (by omega) (by omega) (by omega) (by omega) (by omega) (by omega) (by omega) (by omega) (by omega) (by omega)
  have t29 := zx_g2 hσ
  exact L36 (12 - (0 : Int) + 1 : Int).toNat 0 r5 r12 r20 r28 0 (by omega) (by omega) (by omega) (by omega) (by omega) (by omega) (by omega) (by omega) (by omega) (by omega) (by omega) (by omega) (by omega)
set_option maxHeartbeats 800000 in
theorem c_X12_get {σ : zq_S} (hσ : zx_T σ) (what i : Int) (q0 : zq_in what) (q1 : zq_in i) : zq_C zx_w yX12_get cX12_get 4 (some .int) 2 47 41 41 [ZR 0, ZI what, ZI i] σ (zq_pp σ (fun r => True)) := by
  refine zq_C_of (by decide) (Nat.le_refl _) (Nat.le_of_ble_eq_true rfl) [some (ZR 0), some (ZI what), some (ZI i), none] rfl (fun V hV => ?_)
  show V 0 [some (ZR 0), some (ZI what), some (ZI i), none] [] 41 σ
  refine zr_aload_n (pc := 0) hV dX12_get_0 rfl rfl ?_
  refine zr_iload_n (pc := 1) hV dX12_get_1 rfl rfl ?_
  refine zr_iload_n (pc := 2) hV dX12_get_2 rfl rfl ?_
  refine zr_callVp (pc := 3) hV [ZI what, ZI i] (st := []) (c_X12_placeOf (σ := σ) hσ what i (by omega) (by omega)) dX12_get_3 mX12_349 rfl (by decide) (by decide) (Nat.le_of_ble_eq_true rfl) (Nat.le_refl _) (fun r3 hr3 pr3 => ?_)
  refine zr_istore_n (pc := 6) hV [some (ZR 0), some (ZI what), some (ZI i), some (ZI r3)] dX12_get_6 rfl (by decide) rfl rfl ?_
  refine zr_iload_n (pc := 7) hV dX12_get_7 rfl rfl ?_
  refine zr_if_ge (pc := 8) hV 15 dX12_get_8 (by decide) (by omega) (fun c1 => ?_) (fun c1 => ?_)
  · show V 15 [some (ZR 0), some (ZI what), some (ZI i), some (ZI r3)] [] 41 σ
    refine zr_aload_n (pc := 15) hV dX12_get_15 rfl rfl ?_
    refine zr_getR (pc := 16) hV 24 15 dX12_get_16 fX12_62 rfl rfl rfl (by decide) (zx_g24 hσ) (by omega) ?_
    refine zr_iload_n (pc := 19) hV dX12_get_19 rfl rfl ?_
    refine zr_iald (pc := 20) hV dX12_get_20 rfl (by decide) rfl (by omega) ?_
    have t2 := zx_st hσ r3
    show V 21 [some (ZR 0), some (ZI what), some (ZI i), some (ZI r3)] [ZI (σ 15 r3)] 41 σ
    exact zr_iret (pc := 21) hV dX12_get_21 rfl rfl ⟨rfl, _, rfl, (by omega), trivial⟩
  · show V 11 [some (ZR 0), some (ZI what), some (ZI i), some (ZI r3)] [] 41 σ
    refine zr_iconst (pc := 11) hV (-1) dX12_get_11 rfl ?_
    refine zr_goto (pc := 12) hV 21 dX12_get_12 (by decide) ?_
    show V 21 [some (ZR 0), some (ZI what), some (ZI i), some (ZI r3)] [ZI (-1)] 41 σ
    exact zr_iret (pc := 21) hV dX12_get_21 rfl rfl ⟨rfl, _, rfl, ⟨by decide, by decide⟩, trivial⟩
set_option maxHeartbeats 800000 in
theorem c_X12_set {σ : zq_S} (hσ : zx_T σ) (what i v : Int) (q0 : zq_in what) (q1 : zq_in i) (q2 : zq_in v) : zq_C zx_w yX12_set cX12_set 7 (some .int) 2 47 41 41 [ZR 0, ZI what, ZI i, ZI v] σ (zq_pi (fun r τ => zx_T τ ∧ (∀ a i : Int, (¬ (a = 0 ∧ i = 26) ∧ a ≠ 15) → τ a i = σ a i) ∧ (True))) := by
  refine zq_C_of (by decide) (Nat.le_refl _) (Nat.le_of_ble_eq_true rfl) [some (ZR 0), some (ZI what), some (ZI i), some (ZI v), none, none, none] rfl (fun V hV => ?_)
  show V 0 [some (ZR 0), some (ZI what), some (ZI i), some (ZI v), none, none, none] [] 41 σ
  refine zr_aload_n (pc := 0) hV dX12_set_0 rfl rfl ?_
  refine zr_iload_n (pc := 1) hV dX12_set_1 rfl rfl ?_
  refine zr_iload_n (pc := 2) hV dX12_set_2 rfl rfl ?_
  refine zr_callVp (pc := 3) hV [ZI what, ZI i] (st := []) (c_X12_placeOf (σ := σ) hσ what i (by omega) (by omega)) dX12_set_3 mX12_349 rfl (by decide) (by decide) (Nat.le_of_ble_eq_true rfl) (Nat.le_refl _) (fun r3 hr3 pr3 => ?_)
  refine zr_istore (pc := 6) hV [some (ZR 0), some (ZI what), some (ZI i), some (ZI v), some (ZI r3), none, none] dX12_set_6 (by decide) rfl rfl ?_
  refine zr_iload_n (pc := 8) hV dX12_set_8 rfl rfl ?_
  refine zr_iconst (pc := 9) hV 2 dX12_set_9 rfl ?_
  refine zr_icmp_ne (pc := 10) hV 17 dX12_set_10 (by decide) (by omega) ⟨by decide, by decide⟩ (fun c1 => ?_) (fun c1 => ?_)
  · show V 17 [some (ZR 0), some (ZI what), some (ZI i), some (ZI v), some (ZI r3), none, none] [] 41 σ
    refine zr_iload_n (pc := 17) hV dX12_set_17 rfl rfl ?_
    refine zr_iconst (pc := 18) hV 3 dX12_set_18 rfl ?_
    refine zr_icmp_ne (pc := 19) hV 27 dX12_set_19 (by decide) (by omega) ⟨by decide, by decide⟩ (fun c2 => ?_) (fun c2 => ?_)
    · show V 27 [some (ZR 0), some (ZI what), some (ZI i), some (ZI v), some (ZI r3), none, none] [] 41 σ
      refine zr_aload_n (pc := 27) hV dX12_set_27 rfl rfl ?_
      refine zr_callVp (pc := 28) hV [] (st := []) (c_X12_mask (σ := σ) hσ ) dX12_set_28 mX12_346 rfl (by decide) (by decide) (Nat.le_of_ble_eq_true rfl) (Nat.le_refl _) (fun r28 hr28 pr28 => ?_)
      show V 31 [some (ZR 0), some (ZI what), some (ZI i), some (ZI v), some (ZI r3), none, none] [ZI r28] 41 σ
      refine zr_istore (pc := 31) hV [some (ZR 0), some (ZI what), some (ZI i), some (ZI v), some (ZI r3), some (ZI r28), none] dX12_set_31 (by decide) rfl rfl ?_
      refine zr_iload (pc := 33) hV dX12_set_33 rfl ?_
      refine zr_if_lt (pc := 35) hV 50 dX12_set_35 (by decide) (by omega) (fun c3 => ?_) (fun c3 => ?_)
      · show V 50 [some (ZR 0), some (ZI what), some (ZI i), some (ZI v), some (ZI r3), some (ZI r28), none] [] 41 σ
        refine zr_iconst (pc := 50) hV (-1) dX12_set_50 rfl ?_
        exact zr_iret (pc := 51) hV dX12_set_51 rfl rfl ⟨_, rfl, ⟨by decide, by decide⟩, hσ, (fun a i _ => rfl), trivial⟩
      · show V 38 [some (ZR 0), some (ZI what), some (ZI i), some (ZI v), some (ZI r3), some (ZI r28), none] [] 41 σ
        refine zr_iload_n (pc := 38) hV dX12_set_38 rfl rfl ?_
        refine zr_i2l (pc := 39) hV dX12_set_39 (by omega) ?_
        refine zr_lconst (pc := 40) hV 0 dX12_set_40 (by decide) ?_
        refine zr_iload (pc := 41) hV dX12_set_41 rfl ?_
        refine zr_i2l (pc := 43) hV dX12_set_43 (by omega) ?_
        refine zr_callSp (pc := 44) hV [ZL v, ZL 0, ZL r28] (st := []) (c_X12_in (σ := σ) v 0 r28 (by omega) (by omega) (by omega)) dX12_set_44 mX12_170 (by decide) (Nat.le_of_ble_eq_true rfl) (Nat.le_refl _) (fun r44 hr44 pr44 => ?_)
        refine zr_if_ne (pc := 47) hV 52 dX12_set_47 (by decide) (by omega) (fun c4 => ?_) (fun c4 => ?_)
        · show V 52 [some (ZR 0), some (ZI what), some (ZI i), some (ZI v), some (ZI r3), some (ZI r28), none] [] 41 σ
          refine zr_aload_n (pc := 52) hV dX12_set_52 rfl rfl ?_
          refine zr_getR (pc := 53) hV 24 15 dX12_set_53 fX12_62 rfl rfl rfl (by decide) (zx_g24 hσ) (by omega) ?_
          refine zr_iload (pc := 56) hV dX12_set_56 rfl ?_
          refine zr_iald (pc := 58) hV dX12_set_58 rfl (by decide) rfl (by omega) ?_
          have t5 := zx_st hσ r3
          refine zr_istore (pc := 59) hV [some (ZR 0), some (ZI what), some (ZI i), some (ZI v), some (ZI r3), some (ZI r28), some (ZI (σ 15 r3))] dX12_set_59 (by decide) rfl rfl ?_
          refine zr_aload_n (pc := 61) hV dX12_set_61 rfl rfl ?_
          refine zr_getR (pc := 62) hV 24 15 dX12_set_62 fX12_62 rfl rfl rfl (by decide) (zx_g24 hσ) (by omega) ?_
          refine zr_iload (pc := 65) hV dX12_set_65 rfl ?_
          refine zr_iload_n (pc := 67) hV dX12_set_67 rfl rfl ?_
          refine zr_iast (pc := 68) hV dX12_set_68 rfl (by decide) rfl (by omega) (fun σ68 eσ68 => ?_)
          have hσ68 : zx_T σ68 := zx_ua15 eσ68 hσ (by omega)
          have hFσ68 : ∀ a i : Int, (¬ (a = 0 ∧ i = 26) ∧ a ≠ 15) → σ68 a i = σ a i := fun a i h => by rw [eσ68, zq_up_ne (fun q => h.2 q.1)]
          refine zr_aload_n (pc := 69) hV dX12_set_69 rfl rfl ?_
          refine zr_iconst (pc := 70) hV 0 dX12_set_70 rfl ?_
          refine zr_putI (pc := 71) hV 26 dX12_set_71 fX12_341 rfl rfl rfl rfl (by decide) (fun σ71 eσ71 => ?_)
          have hσ71 : zx_T σ71 := zx_u26 eσ71 hσ68 (by omega)
          have hFσ71 : ∀ a i : Int, (¬ (a = 0 ∧ i = 26) ∧ a ≠ 15) → σ71 a i = σ a i := fun a i h => by rw [eσ71, zq_up_ne h.1]; exact hFσ68 a i h
          refine zr_aload_n (pc := 74) hV dX12_set_74 rfl rfl ?_
          refine zr_getR (pc := 75) hV 24 15 dX12_set_75 fX12_62 rfl rfl rfl (by decide) (zx_g24 hσ71) (by omega) ?_
          refine zr_sipush (pc := 78) hV 270 dX12_set_78 (by decide) ?_
          refine zr_iconst (pc := 81) hV 0 dX12_set_81 rfl ?_
          refine zr_iast (pc := 82) hV dX12_set_82 rfl (by decide) rfl (by omega) (fun σ82 eσ82 => ?_)
          have hσ82 : zx_T σ82 := zx_ua15 eσ82 hσ71 (by omega)
          have hFσ82 : ∀ a i : Int, (¬ (a = 0 ∧ i = 26) ∧ a ≠ 15) → σ82 a i = σ a i := fun a i h => by rw [eσ82, zq_up_ne (fun q => h.2 q.1)]; exact hFσ71 a i h
          refine zr_iload (pc := 83) hV dX12_set_83 rfl ?_
          exact zr_iret (pc := 85) hV dX12_set_85 rfl rfl ⟨_, rfl, (by omega), hσ82, hFσ82, trivial⟩
        · show V 50 [some (ZR 0), some (ZI what), some (ZI i), some (ZI v), some (ZI r3), some (ZI r28), none] [] 41 σ
          refine zr_iconst (pc := 50) hV (-1) dX12_set_50 rfl ?_
          exact zr_iret (pc := 51) hV dX12_set_51 rfl rfl ⟨_, rfl, ⟨by decide, by decide⟩, hσ, (fun a i _ => rfl), trivial⟩
    · show V 22 [some (ZR 0), some (ZI what), some (ZI i), some (ZI v), some (ZI r3), none, none] [] 41 σ
      refine zr_bipush (pc := 22) hV 63 dX12_set_22 (by decide) ?_
      refine zr_goto (pc := 24) hV 31 dX12_set_24 (by decide) ?_
      show V 31 [some (ZR 0), some (ZI what), some (ZI i), some (ZI v), some (ZI r3), none, none] [ZI 63] 41 σ
      refine zr_istore (pc := 31) hV [some (ZR 0), some (ZI what), some (ZI i), some (ZI v), some (ZI r3), some (ZI 63), none] dX12_set_31 (by decide) rfl rfl ?_
      refine zr_iload (pc := 33) hV dX12_set_33 rfl ?_
      refine zr_if_lt (pc := 35) hV 50 dX12_set_35 (by decide) (by omega) (fun c6 => ?_) (fun c6 => ?_)
      · show V 50 [some (ZR 0), some (ZI what), some (ZI i), some (ZI v), some (ZI r3), some (ZI 63), none] [] 41 σ
        refine zr_iconst (pc := 50) hV (-1) dX12_set_50 rfl ?_
        exact zr_iret (pc := 51) hV dX12_set_51 rfl rfl ⟨_, rfl, ⟨by decide, by decide⟩, hσ, (fun a i _ => rfl), trivial⟩
      · show V 38 [some (ZR 0), some (ZI what), some (ZI i), some (ZI v), some (ZI r3), some (ZI 63), none] [] 41 σ
        refine zr_iload_n (pc := 38) hV dX12_set_38 rfl rfl ?_
        refine zr_i2l (pc := 39) hV dX12_set_39 (by omega) ?_
        refine zr_lconst (pc := 40) hV 0 dX12_set_40 (by decide) ?_
        refine zr_iload (pc := 41) hV dX12_set_41 rfl ?_
        refine zr_i2l (pc := 43) hV dX12_set_43 ⟨by decide, by decide⟩ ?_
        refine zr_callSp (pc := 44) hV [ZL v, ZL 0, ZL 63] (st := []) (c_X12_in (σ := σ) v 0 63 (by omega) (by omega) (by omega)) dX12_set_44 mX12_170 (by decide) (Nat.le_of_ble_eq_true rfl) (Nat.le_refl _) (fun r44 hr44 pr44 => ?_)
        refine zr_if_ne (pc := 47) hV 52 dX12_set_47 (by decide) (by omega) (fun c7 => ?_) (fun c7 => ?_)
        · show V 52 [some (ZR 0), some (ZI what), some (ZI i), some (ZI v), some (ZI r3), some (ZI 63), none] [] 41 σ
          refine zr_aload_n (pc := 52) hV dX12_set_52 rfl rfl ?_
          refine zr_getR (pc := 53) hV 24 15 dX12_set_53 fX12_62 rfl rfl rfl (by decide) (zx_g24 hσ) (by omega) ?_
          refine zr_iload (pc := 56) hV dX12_set_56 rfl ?_
          refine zr_iald (pc := 58) hV dX12_set_58 rfl (by decide) rfl (by omega) ?_
          have t8 := zx_st hσ r3
          refine zr_istore (pc := 59) hV [some (ZR 0), some (ZI what), some (ZI i), some (ZI v), some (ZI r3), some (ZI 63), some (ZI (σ 15 r3))] dX12_set_59 (by decide) rfl rfl ?_
          refine zr_aload_n (pc := 61) hV dX12_set_61 rfl rfl ?_
          refine zr_getR (pc := 62) hV 24 15 dX12_set_62 fX12_62 rfl rfl rfl (by decide) (zx_g24 hσ) (by omega) ?_
          refine zr_iload (pc := 65) hV dX12_set_65 rfl ?_
          refine zr_iload_n (pc := 67) hV dX12_set_67 rfl rfl ?_
          refine zr_iast (pc := 68) hV dX12_set_68 rfl (by decide) rfl (by omega) (fun σ68 eσ68 => ?_)
          have hσ68 : zx_T σ68 := zx_ua15 eσ68 hσ (by omega)
          have hFσ68 : ∀ a i : Int, (¬ (a = 0 ∧ i = 26) ∧ a ≠ 15) → σ68 a i = σ a i := fun a i h => by rw [eσ68, zq_up_ne (fun q => h.2 q.1)]
          refine zr_aload_n (pc := 69) hV dX12_set_69 rfl rfl ?_
          refine zr_iconst (pc := 70) hV 0 dX12_set_70 rfl ?_
          refine zr_putI (pc := 71) hV 26 dX12_set_71 fX12_341 rfl rfl rfl rfl (by decide) (fun σ71 eσ71 => ?_)
          have hσ71 : zx_T σ71 := zx_u26 eσ71 hσ68 (by omega)
          have hFσ71 : ∀ a i : Int, (¬ (a = 0 ∧ i = 26) ∧ a ≠ 15) → σ71 a i = σ a i := fun a i h => by rw [eσ71, zq_up_ne h.1]; exact hFσ68 a i h
          refine zr_aload_n (pc := 74) hV dX12_set_74 rfl rfl ?_
          refine zr_getR (pc := 75) hV 24 15 dX12_set_75 fX12_62 rfl rfl rfl (by decide) (zx_g24 hσ71) (by omega) ?_
          refine zr_sipush (pc := 78) hV 270 dX12_set_78 (by decide) ?_
          refine zr_iconst (pc := 81) hV 0 dX12_set_81 rfl ?_
          refine zr_iast (pc := 82) hV dX12_set_82 rfl (by decide) rfl (by omega) (fun σ82 eσ82 => ?_)
          have hσ82 : zx_T σ82 := zx_ua15 eσ82 hσ71 (by omega)
          have hFσ82 : ∀ a i : Int, (¬ (a = 0 ∧ i = 26) ∧ a ≠ 15) → σ82 a i = σ a i := fun a i h => by rw [eσ82, zq_up_ne (fun q => h.2 q.1)]; exact hFσ71 a i h
          refine zr_iload (pc := 83) hV dX12_set_83 rfl ?_
          exact zr_iret (pc := 85) hV dX12_set_85 rfl rfl ⟨_, rfl, (by omega), hσ82, hFσ82, trivial⟩
        · show V 50 [some (ZR 0), some (ZI what), some (ZI i), some (ZI v), some (ZI r3), some (ZI 63), none] [] 41 σ
          refine zr_iconst (pc := 50) hV (-1) dX12_set_50 rfl ?_
          exact zr_iret (pc := 51) hV dX12_set_51 rfl rfl ⟨_, rfl, ⟨by decide, by decide⟩, hσ, (fun a i _ => rfl), trivial⟩
  · show V 13 [some (ZR 0), some (ZI what), some (ZI i), some (ZI v), some (ZI r3), none, none] [] 41 σ
    refine zr_iconst (pc := 13) hV 1 dX12_set_13 rfl ?_
    refine zr_goto (pc := 14) hV 31 dX12_set_14 (by decide) ?_
    show V 31 [some (ZR 0), some (ZI what), some (ZI i), some (ZI v), some (ZI r3), none, none] [ZI 1] 41 σ
    refine zr_istore (pc := 31) hV [some (ZR 0), some (ZI what), some (ZI i), some (ZI v), some (ZI r3), some (ZI 1), none] dX12_set_31 (by decide) rfl rfl ?_
    refine zr_iload (pc := 33) hV dX12_set_33 rfl ?_
    refine zr_if_lt (pc := 35) hV 50 dX12_set_35 (by decide) (by omega) (fun c9 => ?_) (fun c9 => ?_)
    · show V 50 [some (ZR 0), some (ZI what), some (ZI i), some (ZI v), some (ZI r3), some (ZI 1), none] [] 41 σ
      refine zr_iconst (pc := 50) hV (-1) dX12_set_50 rfl ?_
      exact zr_iret (pc := 51) hV dX12_set_51 rfl rfl ⟨_, rfl, ⟨by decide, by decide⟩, hσ, (fun a i _ => rfl), trivial⟩
    · show V 38 [some (ZR 0), some (ZI what), some (ZI i), some (ZI v), some (ZI r3), some (ZI 1), none] [] 41 σ
      refine zr_iload_n (pc := 38) hV dX12_set_38 rfl rfl ?_
      refine zr_i2l (pc := 39) hV dX12_set_39 (by omega) ?_
      refine zr_lconst (pc := 40) hV 0 dX12_set_40 (by decide) ?_
      refine zr_iload (pc := 41) hV dX12_set_41 rfl ?_
      refine zr_i2l (pc := 43) hV dX12_set_43 ⟨by decide, by decide⟩ ?_
      refine zr_callSp (pc := 44) hV [ZL v, ZL 0, ZL 1] (st := []) (c_X12_in (σ := σ) v 0 1 (by omega) (by omega) (by omega)) dX12_set_44 mX12_170 (by decide) (Nat.le_of_ble_eq_true rfl) (Nat.le_refl _) (fun r44 hr44 pr44 => ?_)
      refine zr_if_ne (pc := 47) hV 52 dX12_set_47 (by decide) (by omega) (fun c10 => ?_) (fun c10 => ?_)
      · show V 52 [some (ZR 0), some (ZI what), some (ZI i), some (ZI v), some (ZI r3), some (ZI 1), none] [] 41 σ
        refine zr_aload_n (pc := 52) hV dX12_set_52 rfl rfl ?_
        refine zr_getR (pc := 53) hV 24 15 dX12_set_53 fX12_62 rfl rfl rfl (by decide) (zx_g24 hσ) (by omega) ?_
        refine zr_iload (pc := 56) hV dX12_set_56 rfl ?_
        refine zr_iald (pc := 58) hV dX12_set_58 rfl (by decide) rfl (by omega) ?_
        have t11 := zx_st hσ r3
        refine zr_istore (pc := 59) hV [some (ZR 0), some (ZI what), some (ZI i), some (ZI v), some (ZI r3), some (ZI 1), some (ZI (σ 15 r3))] dX12_set_59 (by decide) rfl rfl ?_
        refine zr_aload_n (pc := 61) hV dX12_set_61 rfl rfl ?_
        refine zr_getR (pc := 62) hV 24 15 dX12_set_62 fX12_62 rfl rfl rfl (by decide) (zx_g24 hσ) (by omega) ?_
        refine zr_iload (pc := 65) hV dX12_set_65 rfl ?_
        refine zr_iload_n (pc := 67) hV dX12_set_67 rfl rfl ?_
        refine zr_iast (pc := 68) hV dX12_set_68 rfl (by decide) rfl (by omega) (fun σ68 eσ68 => ?_)
        have hσ68 : zx_T σ68 := zx_ua15 eσ68 hσ (by omega)
        have hFσ68 : ∀ a i : Int, (¬ (a = 0 ∧ i = 26) ∧ a ≠ 15) → σ68 a i = σ a i := fun a i h => by rw [eσ68, zq_up_ne (fun q => h.2 q.1)]
        refine zr_aload_n (pc := 69) hV dX12_set_69 rfl rfl ?_
        refine zr_iconst (pc := 70) hV 0 dX12_set_70 rfl ?_
        refine zr_putI (pc := 71) hV 26 dX12_set_71 fX12_341 rfl rfl rfl rfl (by decide) (fun σ71 eσ71 => ?_)
        have hσ71 : zx_T σ71 := zx_u26 eσ71 hσ68 (by omega)
        have hFσ71 : ∀ a i : Int, (¬ (a = 0 ∧ i = 26) ∧ a ≠ 15) → σ71 a i = σ a i := fun a i h => by rw [eσ71, zq_up_ne h.1]; exact hFσ68 a i h
        refine zr_aload_n (pc := 74) hV dX12_set_74 rfl rfl ?_
        refine zr_getR (pc := 75) hV 24 15 dX12_set_75 fX12_62 rfl rfl rfl (by decide) (zx_g24 hσ71) (by omega) ?_
        refine zr_sipush (pc := 78) hV 270 dX12_set_78 (by decide) ?_
        refine zr_iconst (pc := 81) hV 0 dX12_set_81 rfl ?_
        refine zr_iast (pc := 82) hV dX12_set_82 rfl (by decide) rfl (by omega) (fun σ82 eσ82 => ?_)
        have hσ82 : zx_T σ82 := zx_ua15 eσ82 hσ71 (by omega)
        have hFσ82 : ∀ a i : Int, (¬ (a = 0 ∧ i = 26) ∧ a ≠ 15) → σ82 a i = σ a i := fun a i h => by rw [eσ82, zq_up_ne (fun q => h.2 q.1)]; exact hFσ71 a i h
        refine zr_iload (pc := 83) hV dX12_set_83 rfl ?_
        exact zr_iret (pc := 85) hV dX12_set_85 rfl rfl ⟨_, rfl, (by omega), hσ82, hFσ82, trivial⟩
      · show V 50 [some (ZR 0), some (ZI what), some (ZI i), some (ZI v), some (ZI r3), some (ZI 1), none] [] 41 σ
        refine zr_iconst (pc := 50) hV (-1) dX12_set_50 rfl ?_
        exact zr_iret (pc := 51) hV dX12_set_51 rfl rfl ⟨_, rfl, ⟨by decide, by decide⟩, hσ, (fun a i _ => rfl), trivial⟩
set_option maxHeartbeats 800000 in
theorem c_X12_reset {σ : zq_S} (hσ : zx_T σ)  : zq_C zx_w yX12_reset cX12_reset 1 (some .int) 1 21 41 41 [ZR 0] σ (zq_pi (fun r τ => zx_T τ ∧ (∀ a i : Int, (¬ (a = 0 ∧ i = 26) ∧ a ≠ 15) → τ a i = σ a i) ∧ (r = 1))) := by
  refine zq_C_of (by decide) (Nat.le_refl _) (Nat.le_of_ble_eq_true rfl) [some (ZR 0)] rfl (fun V hV => ?_)
  show V 0 [some (ZR 0)] [] 41 σ
  refine zr_aload_n (pc := 0) hV dX12_reset_0 rfl rfl ?_
  refine zr_callVv (pc := 1) hV [] (st := []) (c_X12_clearStepper (σ := σ) hσ ) dX12_reset_1 mX12_163 rfl (by decide) (by decide) (Nat.le_of_ble_eq_true rfl) (Nat.le_refl _) (fun σ1 pσ1 => ?_)
  obtain ⟨hσ1, hfσ1, pσ1⟩ := pσ1
  have hFσ1 : ∀ a i : Int, (¬ (a = 0 ∧ i = 26) ∧ a ≠ 15) → σ1 a i = σ a i := fun a i h => (hfσ1 a i ⟨h.1, h.2⟩)
  refine zr_iconst (pc := 4) hV 1 dX12_reset_4 rfl ?_
  exact zr_iret (pc := 5) hV dX12_reset_5 rfl rfl ⟨_, rfl, ⟨by decide, by decide⟩, hσ1, hFσ1, (by omega)⟩
set_option maxHeartbeats 800000 in
theorem c_X12_keepPast {σ : zq_S} (hσ : zx_T σ)  : zq_C zx_w yX12_keepPast cX12_keepPast 2 (none) 0 0 41 41 [ZR 0] σ (zq_pv (fun τ => zx_T τ ∧ (∀ a i : Int, (¬ (a = 0 ∧ i = 26) ∧ ¬ (a = 0 ∧ i = 27) ∧ a ≠ 16) → τ a i = σ a i) ∧ (True))) := by
  refine zq_C_of (by decide) (Nat.le_refl _) (Nat.le_of_ble_eq_true rfl) [some (ZR 0), none] rfl (fun V hV => ?_)
  show V 0 [some (ZR 0), none] [] 41 σ
  refine zr_iconst (pc := 0) hV 0 dX12_keepPast_0 rfl ?_
  refine zr_istore_n (pc := 1) hV [some (ZR 0), some (ZI 0)] dX12_keepPast_1 rfl (by decide) rfl rfl ?_
  have L2 : ∀ (fuel : Nat) (x1_2 : Int) (σ_2 : zq_S), (0 ≤ x1_2 ∧ x1_2 ≤ 336) → (zx_T σ_2) → (∀ a i : Int, (¬ (a = 0 ∧ i = 26) ∧ ¬ (a = 0 ∧ i = 27) ∧ a ≠ 16) → σ_2 a i = σ a i) → 336 - x1_2 < (fuel : Int) → V 2 [some (ZR 0), some (ZI x1_2)] [] 41 σ_2 := by
    intro fuel
    induction fuel with
    | zero =>
      intro x1_2 σ_2 hx1_2 hσ_2 hFσ_2 hm2
      exfalso; omega
    | succ fuel ih =>
      intro x1_2 σ_2 hx1_2 hσ_2 hFσ_2 hm2
      have ih2 := ih
      show V 2 [some (ZR 0), some (ZI x1_2)] [] 41 σ_2
      refine zr_iload_n (pc := 2) hV dX12_keepPast_2 rfl rfl ?_
      refine zr_sipush (pc := 3) hV 336 dX12_keepPast_3 (by decide) ?_
      refine zr_icmp_ge (pc := 6) hV 36 dX12_keepPast_6 (by decide) (by omega) ⟨by decide, by decide⟩ (fun c1 => ?_) (fun c1 => ?_)
      · show V 36 [some (ZR 0), some (ZI x1_2)] [] 41 σ_2
        refine zr_aload_n (pc := 36) hV dX12_keepPast_36 rfl rfl ?_
        refine zr_aload_n (pc := 37) hV dX12_keepPast_37 rfl rfl ?_
        refine zr_getI (pc := 38) hV 27 dX12_keepPast_38 fX12_365 rfl rfl rfl (by decide) ?_
        have t2 := zx_g27 hσ_2
        refine zr_iconst (pc := 41) hV 1 dX12_keepPast_41 rfl ?_
        refine zr_iadd (pc := 42) hV dX12_keepPast_42 ?_
        refine zr_bipush (pc := 43) hV 100 dX12_keepPast_43 (by decide) ?_
        refine zr_irem (pc := 45) hV dX12_keepPast_45 ⟨by decide, by decide⟩ (by omega) ?_
        have t3 := zq_rem_c (x := (σ_2 0 27) + 1) 100 (by decide) (by omega)
        refine zr_putI (pc := 46) hV 27 dX12_keepPast_46 fX12_365 rfl rfl rfl rfl (by decide) (fun σ46 eσ46 => ?_)
        have hσ46 : zx_T σ46 := zx_u27 eσ46 hσ_2 (by omega)
        have hFσ46 : ∀ a i : Int, (¬ (a = 0 ∧ i = 26) ∧ ¬ (a = 0 ∧ i = 27) ∧ a ≠ 16) → σ46 a i = σ a i := fun a i h => by rw [eσ46, zq_up_ne h.2.1]; exact hFσ_2 a i h
        refine zr_aload_n (pc := 49) hV dX12_keepPast_49 rfl rfl ?_
        refine zr_dup (pc := 50) hV dX12_keepPast_50 (fun _ => rfl) ?_
        refine zr_getI (pc := 51) hV 26 dX12_keepPast_51 fX12_341 rfl rfl rfl (by decide) ?_
        have t4 := zx_g26 hσ46
        have t5 : σ46 0 26 = σ_2 0 26 := by rw [eσ46]; exact zq_up_ne (by omega)
        refine zr_aload_n (pc := 54) hV dX12_keepPast_54 rfl rfl ?_
        refine zr_getI (pc := 55) hV 26 dX12_keepPast_55 fX12_341 rfl rfl rfl (by decide) ?_
        have t6 := zx_g26 hσ46
        have t7 : σ46 0 26 = σ_2 0 26 := by rw [eσ46]; exact zq_up_ne (by omega)
        refine zr_bipush (pc := 58) hV 100 dX12_keepPast_58 (by decide) ?_
        refine zr_icmp_ge (pc := 60) hV 67 dX12_keepPast_60 (by decide) (by omega) ⟨by decide, by decide⟩ (fun c8 => ?_) (fun c8 => ?_)
        · show V 67 [some (ZR 0), some (ZI x1_2)] [ZI (σ46 0 26), ZR 0] 41 σ46
          refine zr_iconst (pc := 67) hV 0 dX12_keepPast_67 rfl ?_
          show V 68 [some (ZR 0), some (ZI x1_2)] [ZI 0, ZI (σ46 0 26), ZR 0] 41 σ46
          refine zr_iadd (pc := 68) hV dX12_keepPast_68 ?_
          refine zr_putI (pc := 69) hV 26 dX12_keepPast_69 fX12_341 rfl rfl rfl rfl (by decide) (fun σ69 eσ69 => ?_)
          have hσ69 : zx_T σ69 := zx_u26 eσ69 hσ46 (by omega)
          have hFσ69 : ∀ a i : Int, (¬ (a = 0 ∧ i = 26) ∧ ¬ (a = 0 ∧ i = 27) ∧ a ≠ 16) → σ69 a i = σ a i := fun a i h => by rw [eσ69, zq_up_ne h.1]; exact hFσ46 a i h
          exact zr_vret (pc := 72) hV dX12_keepPast_72 rfl rfl ⟨rfl, hσ69, hFσ69, trivial⟩
        · show V 63 [some (ZR 0), some (ZI x1_2)] [ZI (σ46 0 26), ZR 0] 41 σ46
          refine zr_iconst (pc := 63) hV 1 dX12_keepPast_63 rfl ?_
          refine zr_goto (pc := 64) hV 68 dX12_keepPast_64 (by decide) ?_
          show V 68 [some (ZR 0), some (ZI x1_2)] [ZI 1, ZI (σ46 0 26), ZR 0] 41 σ46
          refine zr_iadd (pc := 68) hV dX12_keepPast_68 ?_
          refine zr_putI (pc := 69) hV 26 dX12_keepPast_69 fX12_341 rfl rfl rfl rfl (by decide) (fun σ69 eσ69 => ?_)
          have hσ69 : zx_T σ69 := zx_u26 eσ69 hσ46 (by omega)
          have hFσ69 : ∀ a i : Int, (¬ (a = 0 ∧ i = 26) ∧ ¬ (a = 0 ∧ i = 27) ∧ a ≠ 16) → σ69 a i = σ a i := fun a i h => by rw [eσ69, zq_up_ne h.1]; exact hFσ46 a i h
          exact zr_vret (pc := 72) hV dX12_keepPast_72 rfl rfl ⟨rfl, hσ69, hFσ69, trivial⟩
      · show V 9 [some (ZR 0), some (ZI x1_2)] [] 41 σ_2
        refine zr_aload_n (pc := 9) hV dX12_keepPast_9 rfl rfl ?_
        refine zr_getR (pc := 10) hV 25 16 dX12_keepPast_10 fX12_66 rfl rfl rfl (by decide) (zx_g25 hσ_2) (by omega) ?_
        refine zr_sipush (pc := 13) hV 336 dX12_keepPast_13 (by decide) ?_
        refine zr_aload_n (pc := 16) hV dX12_keepPast_16 rfl rfl ?_
        refine zr_getI (pc := 17) hV 27 dX12_keepPast_17 fX12_365 rfl rfl rfl (by decide) ?_
        have t9 := zx_g27 hσ_2
        refine zr_imul (pc := 20) hV dX12_keepPast_20 ?_
        refine zr_iload_n (pc := 21) hV dX12_keepPast_21 rfl rfl ?_
        refine zr_iadd (pc := 22) hV dX12_keepPast_22 ?_
        refine zr_aload_n (pc := 23) hV dX12_keepPast_23 rfl rfl ?_
        refine zr_getR (pc := 24) hV 24 15 dX12_keepPast_24 fX12_62 rfl rfl rfl (by decide) (zx_g24 hσ_2) (by omega) ?_
        refine zr_iload_n (pc := 27) hV dX12_keepPast_27 rfl rfl ?_
        refine zr_iald (pc := 28) hV dX12_keepPast_28 rfl (by decide) rfl (by omega) ?_
        have t10 := zx_ga15 hσ_2 x1_2
        have t11 : σ_2 15 x1_2 = σ 15 x1_2 := hFσ_2 _ _ (by omega)
        refine zr_iast (pc := 29) hV dX12_keepPast_29 rfl (by decide) rfl (by omega) (fun σ29 eσ29 => ?_)
        have hσ29 : zx_T σ29 := zx_ua16 eσ29 hσ_2 (by omega)
        have hFσ29 : ∀ a i : Int, (¬ (a = 0 ∧ i = 26) ∧ ¬ (a = 0 ∧ i = 27) ∧ a ≠ 16) → σ29 a i = σ a i := fun a i h => by rw [eσ29, zq_up_ne (fun q => h.2.2 q.1)]; exact hFσ_2 a i h
        refine zr_iinc (pc := 30) hV [some (ZR 0), some (ZI (x1_2 + 1))] (x1_2 + 1) dX12_keepPast_30 rfl rfl (by decide) rfl rfl ?_
        refine zr_goto (pc := 33) hV 2 dX12_keepPast_33 (by decide) ?_
        exact ih2 (x1_2 + 1) σ29 (by omega) hσ29 hFσ29 (by omega)
  exact L2 (336 - (0 : Int) + 1 : Int).toNat 0 σ (by omega) hσ (fun a i _ => rfl) (by omega)
set_option maxHeartbeats 800000 in
theorem c_X12_back {σ : zq_S} (hσ : zx_T σ) (n : Int) (q0 : zq_in n) : zq_C zx_w yX12_back cX12_back 3 (some .int) 1 25 41 41 [ZR 0, ZI n] σ (zq_pi (fun r τ => zx_T τ ∧ (∀ a i : Int, (¬ (a = 0 ∧ i = 26) ∧ ¬ (a = 0 ∧ i = 27) ∧ a ≠ 15) → τ a i = σ a i) ∧ (True))) := by
  refine zq_C_of (by decide) (Nat.le_refl _) (Nat.le_of_ble_eq_true rfl) [some (ZR 0), some (ZI n), none] rfl (fun V hV => ?_)
  show V 0 [some (ZR 0), some (ZI n), none] [] 41 σ
  refine zr_iload_n (pc := 0) hV dX12_back_0 rfl rfl ?_
  refine zr_i2l (pc := 1) hV dX12_back_1 (by omega) ?_
  refine zr_lconst (pc := 2) hV 1 dX12_back_2 (by decide) ?_
  refine zr_ldc2 (pc := 3) (v := 100) hV 100 dX12_back_3 kX12_386 (by decide) ?_
  refine zr_callSp (pc := 6) hV [ZL n, ZL 1, ZL 100] (st := []) (c_X12_in (σ := σ) n 1 100 (by omega) (by omega) (by omega)) dX12_back_6 mX12_170 (by decide) (Nat.le_of_ble_eq_true rfl) (Nat.le_refl _) (fun r6 hr6 pr6 => ?_)
  refine zr_if_ne (pc := 9) hV 14 dX12_back_9 (by decide) (by omega) (fun c1 => ?_) (fun c1 => ?_)
  · show V 14 [some (ZR 0), some (ZI n), none] [] 41 σ
    refine zr_iload_n (pc := 14) hV dX12_back_14 rfl rfl ?_
    refine zr_aload_n (pc := 15) hV dX12_back_15 rfl rfl ?_
    refine zr_getI (pc := 16) hV 26 dX12_back_16 fX12_341 rfl rfl rfl (by decide) ?_
    have t2 := zx_g26 hσ
    refine zr_icmp_le (pc := 19) hV 25 dX12_back_19 (by decide) (by omega) (by omega) (fun c3 => ?_) (fun c3 => ?_)
    · show V 25 [some (ZR 0), some (ZI n), none] [] 41 σ
      refine zr_aload_n (pc := 25) hV dX12_back_25 rfl rfl ?_
      refine zr_aload_n (pc := 26) hV dX12_back_26 rfl rfl ?_
      refine zr_getI (pc := 27) hV 27 dX12_back_27 fX12_365 rfl rfl rfl (by decide) ?_
      have t4 := zx_g27 hσ
      refine zr_bipush (pc := 30) hV 100 dX12_back_30 (by decide) ?_
      refine zr_iadd (pc := 32) hV dX12_back_32 ?_
      refine zr_iload_n (pc := 33) hV dX12_back_33 rfl rfl ?_
      refine zr_isub (pc := 34) hV dX12_back_34 ?_
      refine zr_bipush (pc := 35) hV 100 dX12_back_35 (by decide) ?_
      refine zr_irem (pc := 37) hV dX12_back_37 ⟨by decide, by decide⟩ (by omega) ?_
      have t5 := zq_rem_c (x := ((σ 0 27) + 100) - n) 100 (by decide) (by omega)
      refine zr_putI (pc := 38) hV 27 dX12_back_38 fX12_365 rfl rfl rfl rfl (by decide) (fun σ38 eσ38 => ?_)
      have hσ38 : zx_T σ38 := zx_u27 eσ38 hσ (by omega)
      have hFσ38 : ∀ a i : Int, (¬ (a = 0 ∧ i = 26) ∧ ¬ (a = 0 ∧ i = 27) ∧ a ≠ 15) → σ38 a i = σ a i := fun a i h => by rw [eσ38, zq_up_ne h.2.1]
      refine zr_aload_n (pc := 41) hV dX12_back_41 rfl rfl ?_
      refine zr_dup (pc := 42) hV dX12_back_42 (fun _ => rfl) ?_
      refine zr_getI (pc := 43) hV 26 dX12_back_43 fX12_341 rfl rfl rfl (by decide) ?_
      have t6 := zx_g26 hσ38
      have t7 : σ38 0 26 = σ 0 26 := by rw [eσ38]; exact zq_up_ne (by omega)
      refine zr_iload_n (pc := 46) hV dX12_back_46 rfl rfl ?_
      refine zr_isub (pc := 47) hV dX12_back_47 ?_
      refine zr_putI (pc := 48) hV 26 dX12_back_48 fX12_341 rfl rfl rfl rfl (by decide) (fun σ48 eσ48 => ?_)
      have hσ48 : zx_T σ48 := zx_u26 eσ48 hσ38 (by omega)
      have hFσ48 : ∀ a i : Int, (¬ (a = 0 ∧ i = 26) ∧ ¬ (a = 0 ∧ i = 27) ∧ a ≠ 15) → σ48 a i = σ a i := fun a i h => by rw [eσ48, zq_up_ne h.1]; exact hFσ38 a i h
      refine zr_iconst (pc := 51) hV 0 dX12_back_51 rfl ?_
      refine zr_istore_n (pc := 52) hV [some (ZR 0), some (ZI n), some (ZI 0)] dX12_back_52 rfl (by decide) rfl rfl ?_
      have L53 : ∀ (fuel : Nat) (x2_53 : Int) (σ_53 : zq_S), (0 ≤ x2_53 ∧ x2_53 ≤ 336) → (zx_T σ_53) → (∀ a i : Int, (¬ (a = 0 ∧ i = 26) ∧ ¬ (a = 0 ∧ i = 27) ∧ a ≠ 15) → σ_53 a i = σ a i) → 336 - x2_53 < (fuel : Int) → V 53 [some (ZR 0), none, some (ZI x2_53)] [] 41 σ_53 := by
        intro fuel
        induction fuel with
        | zero =>
          intro x2_53 σ_53 hx2_53 hσ_53 hFσ_53 hm53
          exfalso; omega
        | succ fuel ih =>
          intro x2_53 σ_53 hx2_53 hσ_53 hFσ_53 hm53
          have ih53 := ih
          show V 53 [some (ZR 0), none, some (ZI x2_53)] [] 41 σ_53
          refine zr_iload_n (pc := 53) hV dX12_back_53 rfl rfl ?_
          refine zr_sipush (pc := 54) hV 336 dX12_back_54 (by decide) ?_
          refine zr_icmp_ge (pc := 57) hV 87 dX12_back_57 (by decide) (by omega) ⟨by decide, by decide⟩ (fun c8 => ?_) (fun c8 => ?_)
          · show V 87 [some (ZR 0), none, some (ZI x2_53)] [] 41 σ_53
            refine zr_aload_n (pc := 87) hV dX12_back_87 rfl rfl ?_
            refine zr_getR (pc := 88) hV 24 15 dX12_back_88 fX12_62 rfl rfl rfl (by decide) (zx_g24 hσ_53) (by omega) ?_
            refine zr_sipush (pc := 91) hV 270 dX12_back_91 (by decide) ?_
            refine zr_iconst (pc := 94) hV 0 dX12_back_94 rfl ?_
            refine zr_iast (pc := 95) hV dX12_back_95 rfl (by decide) rfl (by omega) (fun σ95 eσ95 => ?_)
            have hσ95 : zx_T σ95 := zx_ua15 eσ95 hσ_53 (by omega)
            have hFσ95 : ∀ a i : Int, (¬ (a = 0 ∧ i = 26) ∧ ¬ (a = 0 ∧ i = 27) ∧ a ≠ 15) → σ95 a i = σ a i := fun a i h => by rw [eσ95, zq_up_ne (fun q => h.2.2 q.1)]; exact hFσ_53 a i h
            refine zr_aload_n (pc := 96) hV dX12_back_96 rfl rfl ?_
            refine zr_getI (pc := 97) hV 26 dX12_back_97 fX12_341 rfl rfl rfl (by decide) ?_
            have t9 := zx_g26 hσ95
            have t10 : σ95 0 26 = σ_53 0 26 := by rw [eσ95]; exact zq_up_ne (by omega)
            exact zr_iret (pc := 100) hV dX12_back_100 rfl rfl ⟨_, rfl, (by omega), hσ95, hFσ95, trivial⟩
          · show V 60 [some (ZR 0), none, some (ZI x2_53)] [] 41 σ_53
            refine zr_aload_n (pc := 60) hV dX12_back_60 rfl rfl ?_
            refine zr_getR (pc := 61) hV 24 15 dX12_back_61 fX12_62 rfl rfl rfl (by decide) (zx_g24 hσ_53) (by omega) ?_
            refine zr_iload_n (pc := 64) hV dX12_back_64 rfl rfl ?_
            refine zr_aload_n (pc := 65) hV dX12_back_65 rfl rfl ?_
            refine zr_getR (pc := 66) hV 25 16 dX12_back_66 fX12_66 rfl rfl rfl (by decide) (zx_g25 hσ_53) (by omega) ?_
            refine zr_sipush (pc := 69) hV 336 dX12_back_69 (by decide) ?_
            refine zr_aload_n (pc := 72) hV dX12_back_72 rfl rfl ?_
            refine zr_getI (pc := 73) hV 27 dX12_back_73 fX12_365 rfl rfl rfl (by decide) ?_
            have t11 := zx_g27 hσ_53
            refine zr_imul (pc := 76) hV dX12_back_76 ?_
            refine zr_iload_n (pc := 77) hV dX12_back_77 rfl rfl ?_
            refine zr_iadd (pc := 78) hV dX12_back_78 ?_
            refine zr_iald (pc := 79) hV dX12_back_79 rfl (by decide) rfl (by omega) ?_
            have t12 := zx_ga16 hσ_53 ((336 * (σ_53 0 27)) + x2_53)
            have t13 : σ_53 16 ((336 * (σ_53 0 27)) + x2_53) = σ 16 ((336 * (σ_53 0 27)) + x2_53) := hFσ_53 _ _ (by omega)
            refine zr_iast (pc := 80) hV dX12_back_80 rfl (by decide) rfl (by omega) (fun σ80 eσ80 => ?_)
            have hσ80 : zx_T σ80 := zx_ua15 eσ80 hσ_53 (by omega)
            have hFσ80 : ∀ a i : Int, (¬ (a = 0 ∧ i = 26) ∧ ¬ (a = 0 ∧ i = 27) ∧ a ≠ 15) → σ80 a i = σ a i := fun a i h => by rw [eσ80, zq_up_ne (fun q => h.2.2 q.1)]; exact hFσ_53 a i h
            refine zr_iinc (pc := 81) hV [some (ZR 0), none, some (ZI (x2_53 + 1))] (x2_53 + 1) dX12_back_81 rfl rfl (by decide) rfl rfl ?_
            refine zr_goto (pc := 84) hV 53 dX12_back_84 (by decide) ?_
            exact ih53 (x2_53 + 1) σ80 (by omega) hσ80 hFσ80 (by omega)
      refine zr_sub (pc := 53) hV [some (ZR 0), none, some (ZI 0)] (⟨rfl, rfl, trivial⟩) ?_
      exact L53 (336 - (0 : Int) + 1 : Int).toNat 0 σ48 (by omega) hσ48 hFσ48 (by omega)
    · show V 22 [some (ZR 0), some (ZI n), none] [] 41 σ
      refine zr_bipush (pc := 22) hV (-2) dX12_back_22 (by decide) ?_
      exact zr_iret (pc := 24) hV dX12_back_24 rfl rfl ⟨_, rfl, ⟨by decide, by decide⟩, hσ, (fun a i _ => rfl), trivial⟩
  · show V 12 [some (ZR 0), some (ZI n), none] [] 41 σ
    refine zr_iconst (pc := 12) hV (-1) dX12_back_12 rfl ?_
    exact zr_iret (pc := 13) hV dX12_back_13 rfl rfl ⟨_, rfl, ⟨by decide, by decide⟩, hσ, (fun a i _ => rfl), trivial⟩
set_option maxHeartbeats 800000 in
theorem c_X12_formOf {σ : zq_S} (hσ : zx_T σ) (o : Int) (q0 : 0 ≤ o ∧ o ≤ 20) : zq_C zx_w yX12_formOf cX12_formOf 6 (some .int) 3 69 41 41 [ZR 0, ZI o] σ (zq_pp σ (fun r => 0 ≤ r ∧ r ≤ 6 ∧ r = zx_form σ o)) := by
  refine zq_C_of (by decide) (Nat.le_refl _) (Nat.le_of_ble_eq_true rfl) [some (ZR 0), some (ZI o), none, none, none, none] rfl (fun V hV => ?_)
  show V 0 [some (ZR 0), some (ZI o), none, none, none, none] [] 41 σ
  refine zr_bipush (pc := 0) hV 18 dX12_formOf_0 (by decide) ?_
  refine zr_iload_n (pc := 2) hV dX12_formOf_2 rfl rfl ?_
  refine zr_imul (pc := 3) hV dX12_formOf_3 ?_
  refine zr_istore_n (pc := 4) hV [some (ZR 0), some (ZI o), some (ZI (18 * o)), none, none, none] dX12_formOf_4 rfl (by decide) rfl rfl ?_
  refine zr_aload_n (pc := 5) hV dX12_formOf_5 rfl rfl ?_
  refine zr_getR (pc := 6) hV 6 3 dX12_formOf_6 fX12_26 rfl rfl rfl (by decide) (zx_g6 hσ) (by omega) ?_
  refine zr_iload_n (pc := 9) hV dX12_formOf_9 rfl rfl ?_
  refine zr_iald (pc := 10) hV dX12_formOf_10 rfl (by decide) rfl (by omega) ?_
  have t1 := zx_ga3 hσ o
  refine zr_if_gt (pc := 11) hV 33 dX12_formOf_11 (by decide) (by omega) (fun c2 => ?_) (fun c2 => ?_)
  · show V 33 [some (ZR 0), some (ZI o), some (ZI (18 * o)), none, none, none] [] 41 σ
    refine zr_iconst (pc := 33) hV 0 dX12_formOf_33 rfl ?_
    exact zr_iret (pc := 34) hV dX12_formOf_34 rfl rfl ⟨rfl, _, rfl, ⟨by decide, by decide⟩, ⟨by omega, by omega, by unfold zx_form; repeat' split; all_goals omega⟩⟩
  · show V 14 [some (ZR 0), some (ZI o), some (ZI (18 * o)), none, none, none] [] 41 σ
    refine zr_aload_n (pc := 14) hV dX12_formOf_14 rfl rfl ?_
    refine zr_getR (pc := 15) hV 8 5 dX12_formOf_15 fX12_32 rfl rfl rfl (by decide) (zx_g8 hσ) (by omega) ?_
    refine zr_iload_n (pc := 18) hV dX12_formOf_18 rfl rfl ?_
    refine zr_iald (pc := 19) hV dX12_formOf_19 rfl (by decide) rfl (by omega) ?_
    have t3 := zx_ga5 hσ o
    refine zr_iconst (pc := 20) hV 1 dX12_formOf_20 rfl ?_
    refine zr_icmp_ne (pc := 21) hV 33 dX12_formOf_21 (by decide) (by omega) ⟨by decide, by decide⟩ (fun c4 => ?_) (fun c4 => ?_)
    · show V 33 [some (ZR 0), some (ZI o), some (ZI (18 * o)), none, none, none] [] 41 σ
      refine zr_iconst (pc := 33) hV 0 dX12_formOf_33 rfl ?_
      exact zr_iret (pc := 34) hV dX12_formOf_34 rfl rfl ⟨rfl, _, rfl, ⟨by decide, by decide⟩, ⟨by omega, by omega, by unfold zx_form; repeat' split; all_goals omega⟩⟩
    · show V 24 [some (ZR 0), some (ZI o), some (ZI (18 * o)), none, none, none] [] 41 σ
      refine zr_aload_n (pc := 24) hV dX12_formOf_24 rfl rfl ?_
      refine zr_getR (pc := 25) hV 9 6 dX12_formOf_25 fX12_35 rfl rfl rfl (by decide) (zx_g9 hσ) (by omega) ?_
      refine zr_iload_n (pc := 28) hV dX12_formOf_28 rfl rfl ?_
      refine zr_iald (pc := 29) hV dX12_formOf_29 rfl (by decide) rfl (by omega) ?_
      have t5 := zx_ac0 hσ (18 * o) (by omega)
      refine zr_if_eq (pc := 30) hV 35 dX12_formOf_30 (by decide) (by omega) (fun c6 => ?_) (fun c6 => ?_)
      · show V 35 [some (ZR 0), some (ZI o), some (ZI (18 * o)), none, none, none] [] 41 σ
        refine zr_aload_n (pc := 35) hV dX12_formOf_35 rfl rfl ?_
        refine zr_getR (pc := 36) hV 9 6 dX12_formOf_36 fX12_35 rfl rfl rfl (by decide) (zx_g9 hσ) (by omega) ?_
        refine zr_iload_n (pc := 39) hV dX12_formOf_39 rfl rfl ?_
        refine zr_iconst (pc := 40) hV 1 dX12_formOf_40 rfl ?_
        refine zr_iadd (pc := 41) hV dX12_formOf_41 ?_
        refine zr_iald (pc := 42) hV dX12_formOf_42 rfl (by decide) rfl (by omega) ?_
        have t7 := zx_ac1 hσ ((18 * o) + 1) (by omega)
        refine zr_istore_n (pc := 43) hV [some (ZR 0), some (ZI o), some (ZI (18 * o)), some (ZI (σ 6 ((18 * o) + 1))), none, none] dX12_formOf_43 rfl (by decide) rfl rfl ?_
        refine zr_aload_n (pc := 44) hV dX12_formOf_44 rfl rfl ?_
        refine zr_getR (pc := 45) hV 9 6 dX12_formOf_45 fX12_35 rfl rfl rfl (by decide) (zx_g9 hσ) (by omega) ?_
        refine zr_iload_n (pc := 48) hV dX12_formOf_48 rfl rfl ?_
        refine zr_iconst (pc := 49) hV 3 dX12_formOf_49 rfl ?_
        refine zr_iadd (pc := 50) hV dX12_formOf_50 ?_
        refine zr_iald (pc := 51) hV dX12_formOf_51 rfl (by decide) rfl (by omega) ?_
        have t8 := zx_ac3 hσ ((18 * o) + 3) (by omega)
        refine zr_if_ne (pc := 52) hV 59 dX12_formOf_52 (by decide) (by omega) (fun c9 => ?_) (fun c9 => ?_)
        · show V 59 [some (ZR 0), some (ZI o), some (ZI (18 * o)), some (ZI (σ 6 ((18 * o) + 1))), none, none] [] 41 σ
          refine zr_aload_n (pc := 59) hV dX12_formOf_59 rfl rfl ?_
          refine zr_getR (pc := 60) hV 9 6 dX12_formOf_60 fX12_35 rfl rfl rfl (by decide) (zx_g9 hσ) (by omega) ?_
          refine zr_iload_n (pc := 63) hV dX12_formOf_63 rfl rfl ?_
          refine zr_iconst (pc := 64) hV 4 dX12_formOf_64 rfl ?_
          refine zr_iadd (pc := 65) hV dX12_formOf_65 ?_
          refine zr_iald (pc := 66) hV dX12_formOf_66 rfl (by decide) rfl (by omega) ?_
          have t10 := zx_ac4 hσ ((18 * o) + 4) (by omega)
          show V 67 [some (ZR 0), some (ZI o), some (ZI (18 * o)), some (ZI (σ 6 ((18 * o) + 1))), none, none] [ZI (σ 6 ((18 * o) + 4))] 41 σ
          refine zr_istore (pc := 67) hV [some (ZR 0), some (ZI o), some (ZI (18 * o)), some (ZI (σ 6 ((18 * o) + 1))), some (ZI (σ 6 ((18 * o) + 4))), none] dX12_formOf_67 (by decide) rfl rfl ?_
          refine zr_aload_n (pc := 69) hV dX12_formOf_69 rfl rfl ?_
          refine zr_iload_n (pc := 70) hV dX12_formOf_70 rfl rfl ?_
          refine zr_callVp (pc := 71) hV [ZI o] (st := []) (c_X12_fieldMask (σ := σ) hσ o (by omega)) dX12_formOf_71 mX12_274 rfl (by decide) (by decide) (Nat.le_of_ble_eq_true rfl) (Nat.le_refl _) (fun r71 hr71 pr71 => ?_)
          refine zr_istore (pc := 74) hV [some (ZR 0), some (ZI o), some (ZI (18 * o)), some (ZI (σ 6 ((18 * o) + 1))), some (ZI (σ 6 ((18 * o) + 4))), some (ZI r71)] dX12_formOf_74 (by decide) rfl rfl ?_
          refine zr_iload (pc := 76) hV dX12_formOf_76 rfl ?_
          refine zr_if_ge (pc := 78) hV 114 dX12_formOf_78 (by decide) (by omega) (fun c11 => ?_) (fun c11 => ?_)
          · show V 114 [some (ZR 0), some (ZI o), some (ZI (18 * o)), some (ZI (σ 6 ((18 * o) + 1))), some (ZI (σ 6 ((18 * o) + 4))), some (ZI r71)] [] 41 σ
            refine zr_iload_n (pc := 114) hV dX12_formOf_114 rfl rfl ?_
            refine zr_iconst (pc := 115) hV 1 dX12_formOf_115 rfl ?_
            refine zr_icmp_ne (pc := 116) hV 155 dX12_formOf_116 (by decide) (by omega) ⟨by decide, by decide⟩ (fun c12 => ?_) (fun c12 => ?_)
            · show V 155 [some (ZR 0), some (ZI o), some (ZI (18 * o)), some (ZI (σ 6 ((18 * o) + 1))), some (ZI (σ 6 ((18 * o) + 4))), some (ZI r71)] [] 41 σ
              refine zr_iload_n (pc := 155) hV dX12_formOf_155 rfl rfl ?_
              refine zr_if_eq (pc := 156) hV 163 dX12_formOf_156 (by decide) (by omega) (fun c13 => ?_) (fun c13 => ?_)
              · show V 163 [some (ZR 0), some (ZI o), some (ZI (18 * o)), some (ZI (σ 6 ((18 * o) + 1))), some (ZI (σ 6 ((18 * o) + 4))), some (ZI r71)] [] 41 σ
                refine zr_iload (pc := 163) hV dX12_formOf_163 rfl ?_
                refine zr_iconst (pc := 165) hV 1 dX12_formOf_165 rfl ?_
                refine zr_icmp_ne (pc := 166) hV 179 dX12_formOf_166 (by decide) (by omega) ⟨by decide, by decide⟩ (fun c14 => ?_) (fun c14 => ?_)
                · show V 179 [some (ZR 0), some (ZI o), some (ZI (18 * o)), some (ZI (σ 6 ((18 * o) + 1))), some (ZI (σ 6 ((18 * o) + 4))), some (ZI r71)] [] 41 σ
                  refine zr_iload (pc := 179) hV dX12_formOf_179 rfl ?_
                  refine zr_iconst (pc := 181) hV 3 dX12_formOf_181 rfl ?_
                  refine zr_icmp_ne (pc := 182) hV 197 dX12_formOf_182 (by decide) (by omega) ⟨by decide, by decide⟩ (fun c15 => ?_) (fun c15 => ?_)
                  · show V 197 [some (ZR 0), some (ZI o), some (ZI (18 * o)), some (ZI (σ 6 ((18 * o) + 1))), some (ZI (σ 6 ((18 * o) + 4))), some (ZI r71)] [] 41 σ
                    refine zr_iconst (pc := 197) hV 0 dX12_formOf_197 rfl ?_
                    show V 198 [some (ZR 0), some (ZI o), some (ZI (18 * o)), some (ZI (σ 6 ((18 * o) + 1))), some (ZI (σ 6 ((18 * o) + 4))), some (ZI r71)] [ZI 0] 41 σ
                    exact zr_iret (pc := 198) hV dX12_formOf_198 rfl rfl ⟨rfl, _, rfl, ⟨by decide, by decide⟩, ⟨by omega, by omega, by unfold zx_form; repeat' split; all_goals omega⟩⟩
                  · show V 185 [some (ZR 0), some (ZI o), some (ZI (18 * o)), some (ZI (σ 6 ((18 * o) + 1))), some (ZI (σ 6 ((18 * o) + 4))), some (ZI r71)] [] 41 σ
                    refine zr_iload (pc := 185) hV dX12_formOf_185 rfl ?_
                    refine zr_bipush (pc := 187) hV 9 dX12_formOf_187 (by decide) ?_
                    refine zr_icmp_ne (pc := 189) hV 197 dX12_formOf_189 (by decide) (by omega) ⟨by decide, by decide⟩ (fun c16 => ?_) (fun c16 => ?_)
                    · show V 197 [some (ZR 0), some (ZI o), some (ZI (18 * o)), some (ZI (σ 6 ((18 * o) + 1))), some (ZI (σ 6 ((18 * o) + 4))), some (ZI r71)] [] 41 σ
                      refine zr_iconst (pc := 197) hV 0 dX12_formOf_197 rfl ?_
                      show V 198 [some (ZR 0), some (ZI o), some (ZI (18 * o)), some (ZI (σ 6 ((18 * o) + 1))), some (ZI (σ 6 ((18 * o) + 4))), some (ZI r71)] [ZI 0] 41 σ
                      exact zr_iret (pc := 198) hV dX12_formOf_198 rfl rfl ⟨rfl, _, rfl, ⟨by decide, by decide⟩, ⟨by omega, by omega, by unfold zx_form; repeat' split; all_goals omega⟩⟩
                    · show V 192 [some (ZR 0), some (ZI o), some (ZI (18 * o)), some (ZI (σ 6 ((18 * o) + 1))), some (ZI (σ 6 ((18 * o) + 4))), some (ZI r71)] [] 41 σ
                      refine zr_bipush (pc := 192) hV 6 dX12_formOf_192 (by decide) ?_
                      refine zr_goto (pc := 194) hV 198 dX12_formOf_194 (by decide) ?_
                      show V 198 [some (ZR 0), some (ZI o), some (ZI (18 * o)), some (ZI (σ 6 ((18 * o) + 1))), some (ZI (σ 6 ((18 * o) + 4))), some (ZI r71)] [ZI 6] 41 σ
                      exact zr_iret (pc := 198) hV dX12_formOf_198 rfl rfl ⟨rfl, _, rfl, ⟨by decide, by decide⟩, ⟨by omega, by omega, by unfold zx_form; repeat' split; all_goals omega⟩⟩
                · show V 169 [some (ZR 0), some (ZI o), some (ZI (18 * o)), some (ZI (σ 6 ((18 * o) + 1))), some (ZI (σ 6 ((18 * o) + 4))), some (ZI r71)] [] 41 σ
                  refine zr_iload (pc := 169) hV dX12_formOf_169 rfl ?_
                  refine zr_iconst (pc := 171) hV 3 dX12_formOf_171 rfl ?_
                  refine zr_icmp_ne (pc := 172) hV 179 dX12_formOf_172 (by decide) (by omega) ⟨by decide, by decide⟩ (fun c17 => ?_) (fun c17 => ?_)
                  · show V 179 [some (ZR 0), some (ZI o), some (ZI (18 * o)), some (ZI (σ 6 ((18 * o) + 1))), some (ZI (σ 6 ((18 * o) + 4))), some (ZI r71)] [] 41 σ
                    refine zr_iload (pc := 179) hV dX12_formOf_179 rfl ?_
                    refine zr_iconst (pc := 181) hV 3 dX12_formOf_181 rfl ?_
                    refine zr_icmp_ne (pc := 182) hV 197 dX12_formOf_182 (by decide) (by omega) ⟨by decide, by decide⟩ (fun c18 => ?_) (fun c18 => ?_)
                    · show V 197 [some (ZR 0), some (ZI o), some (ZI (18 * o)), some (ZI (σ 6 ((18 * o) + 1))), some (ZI (σ 6 ((18 * o) + 4))), some (ZI r71)] [] 41 σ
                      refine zr_iconst (pc := 197) hV 0 dX12_formOf_197 rfl ?_
                      show V 198 [some (ZR 0), some (ZI o), some (ZI (18 * o)), some (ZI (σ 6 ((18 * o) + 1))), some (ZI (σ 6 ((18 * o) + 4))), some (ZI r71)] [ZI 0] 41 σ
                      exact zr_iret (pc := 198) hV dX12_formOf_198 rfl rfl ⟨rfl, _, rfl, ⟨by decide, by decide⟩, ⟨by omega, by omega, by unfold zx_form; repeat' split; all_goals omega⟩⟩
                    · exfalso; omega
                  · show V 175 [some (ZR 0), some (ZI o), some (ZI (18 * o)), some (ZI (σ 6 ((18 * o) + 1))), some (ZI (σ 6 ((18 * o) + 4))), some (ZI r71)] [] 41 σ
                    refine zr_iconst (pc := 175) hV 5 dX12_formOf_175 rfl ?_
                    refine zr_goto (pc := 176) hV 198 dX12_formOf_176 (by decide) ?_
                    show V 198 [some (ZR 0), some (ZI o), some (ZI (18 * o)), some (ZI (σ 6 ((18 * o) + 1))), some (ZI (σ 6 ((18 * o) + 4))), some (ZI r71)] [ZI 5] 41 σ
                    exact zr_iret (pc := 198) hV dX12_formOf_198 rfl rfl ⟨rfl, _, rfl, ⟨by decide, by decide⟩, ⟨by omega, by omega, by unfold zx_form; repeat' split; all_goals omega⟩⟩
              · show V 159 [some (ZR 0), some (ZI o), some (ZI (18 * o)), some (ZI (σ 6 ((18 * o) + 1))), some (ZI (σ 6 ((18 * o) + 4))), some (ZI r71)] [] 41 σ
                refine zr_iconst (pc := 159) hV 0 dX12_formOf_159 rfl ?_
                refine zr_goto (pc := 160) hV 198 dX12_formOf_160 (by decide) ?_
                show V 198 [some (ZR 0), some (ZI o), some (ZI (18 * o)), some (ZI (σ 6 ((18 * o) + 1))), some (ZI (σ 6 ((18 * o) + 4))), some (ZI r71)] [ZI 0] 41 σ
                exact zr_iret (pc := 198) hV dX12_formOf_198 rfl rfl ⟨rfl, _, rfl, ⟨by decide, by decide⟩, ⟨by omega, by omega, by unfold zx_form; repeat' split; all_goals omega⟩⟩
            · show V 119 [some (ZR 0), some (ZI o), some (ZI (18 * o)), some (ZI (σ 6 ((18 * o) + 1))), some (ZI (σ 6 ((18 * o) + 4))), some (ZI r71)] [] 41 σ
              refine zr_iload (pc := 119) hV dX12_formOf_119 rfl ?_
              refine zr_iconst (pc := 121) hV 2 dX12_formOf_121 rfl ?_
              refine zr_icmp_ne (pc := 122) hV 136 dX12_formOf_122 (by decide) (by omega) ⟨by decide, by decide⟩ (fun c19 => ?_) (fun c19 => ?_)
              · show V 136 [some (ZR 0), some (ZI o), some (ZI (18 * o)), some (ZI (σ 6 ((18 * o) + 1))), some (ZI (σ 6 ((18 * o) + 4))), some (ZI r71)] [] 41 σ
                refine zr_iload (pc := 136) hV dX12_formOf_136 rfl ?_
                refine zr_iconst (pc := 138) hV 3 dX12_formOf_138 rfl ?_
                refine zr_icmp_ne (pc := 139) hV 153 dX12_formOf_139 (by decide) (by omega) ⟨by decide, by decide⟩ (fun c20 => ?_) (fun c20 => ?_)
                · show V 153 [some (ZR 0), some (ZI o), some (ZI (18 * o)), some (ZI (σ 6 ((18 * o) + 1))), some (ZI (σ 6 ((18 * o) + 4))), some (ZI r71)] [] 41 σ
                  refine zr_iconst (pc := 153) hV 0 dX12_formOf_153 rfl ?_
                  show V 154 [some (ZR 0), some (ZI o), some (ZI (18 * o)), some (ZI (σ 6 ((18 * o) + 1))), some (ZI (σ 6 ((18 * o) + 4))), some (ZI r71)] [ZI 0] 41 σ
                  exact zr_iret (pc := 154) hV dX12_formOf_154 rfl rfl ⟨rfl, _, rfl, ⟨by decide, by decide⟩, ⟨by omega, by omega, by unfold zx_form; repeat' split; all_goals omega⟩⟩
                · show V 142 [some (ZR 0), some (ZI o), some (ZI (18 * o)), some (ZI (σ 6 ((18 * o) + 1))), some (ZI (σ 6 ((18 * o) + 4))), some (ZI r71)] [] 41 σ
                  refine zr_iload (pc := 142) hV dX12_formOf_142 rfl ?_
                  refine zr_bipush (pc := 144) hV 11 dX12_formOf_144 (by decide) ?_
                  refine zr_icmp_ne (pc := 146) hV 153 dX12_formOf_146 (by decide) (by omega) ⟨by decide, by decide⟩ (fun c21 => ?_) (fun c21 => ?_)
                  · show V 153 [some (ZR 0), some (ZI o), some (ZI (18 * o)), some (ZI (σ 6 ((18 * o) + 1))), some (ZI (σ 6 ((18 * o) + 4))), some (ZI r71)] [] 41 σ
                    refine zr_iconst (pc := 153) hV 0 dX12_formOf_153 rfl ?_
                    show V 154 [some (ZR 0), some (ZI o), some (ZI (18 * o)), some (ZI (σ 6 ((18 * o) + 1))), some (ZI (σ 6 ((18 * o) + 4))), some (ZI r71)] [ZI 0] 41 σ
                    exact zr_iret (pc := 154) hV dX12_formOf_154 rfl rfl ⟨rfl, _, rfl, ⟨by decide, by decide⟩, ⟨by omega, by omega, by unfold zx_form; repeat' split; all_goals omega⟩⟩
                  · show V 149 [some (ZR 0), some (ZI o), some (ZI (18 * o)), some (ZI (σ 6 ((18 * o) + 1))), some (ZI (σ 6 ((18 * o) + 4))), some (ZI r71)] [] 41 σ
                    refine zr_iconst (pc := 149) hV 4 dX12_formOf_149 rfl ?_
                    refine zr_goto (pc := 150) hV 154 dX12_formOf_150 (by decide) ?_
                    show V 154 [some (ZR 0), some (ZI o), some (ZI (18 * o)), some (ZI (σ 6 ((18 * o) + 1))), some (ZI (σ 6 ((18 * o) + 4))), some (ZI r71)] [ZI 4] 41 σ
                    exact zr_iret (pc := 154) hV dX12_formOf_154 rfl rfl ⟨rfl, _, rfl, ⟨by decide, by decide⟩, ⟨by omega, by omega, by unfold zx_form; repeat' split; all_goals omega⟩⟩
              · show V 125 [some (ZR 0), some (ZI o), some (ZI (18 * o)), some (ZI (σ 6 ((18 * o) + 1))), some (ZI (σ 6 ((18 * o) + 4))), some (ZI r71)] [] 41 σ
                refine zr_iload (pc := 125) hV dX12_formOf_125 rfl ?_
                refine zr_bipush (pc := 127) hV 7 dX12_formOf_127 (by decide) ?_
                refine zr_icmp_ne (pc := 129) hV 136 dX12_formOf_129 (by decide) (by omega) ⟨by decide, by decide⟩ (fun c22 => ?_) (fun c22 => ?_)
                · show V 136 [some (ZR 0), some (ZI o), some (ZI (18 * o)), some (ZI (σ 6 ((18 * o) + 1))), some (ZI (σ 6 ((18 * o) + 4))), some (ZI r71)] [] 41 σ
                  refine zr_iload (pc := 136) hV dX12_formOf_136 rfl ?_
                  refine zr_iconst (pc := 138) hV 3 dX12_formOf_138 rfl ?_
                  refine zr_icmp_ne (pc := 139) hV 153 dX12_formOf_139 (by decide) (by omega) ⟨by decide, by decide⟩ (fun c23 => ?_) (fun c23 => ?_)
                  · show V 153 [some (ZR 0), some (ZI o), some (ZI (18 * o)), some (ZI (σ 6 ((18 * o) + 1))), some (ZI (σ 6 ((18 * o) + 4))), some (ZI r71)] [] 41 σ
                    refine zr_iconst (pc := 153) hV 0 dX12_formOf_153 rfl ?_
                    show V 154 [some (ZR 0), some (ZI o), some (ZI (18 * o)), some (ZI (σ 6 ((18 * o) + 1))), some (ZI (σ 6 ((18 * o) + 4))), some (ZI r71)] [ZI 0] 41 σ
                    exact zr_iret (pc := 154) hV dX12_formOf_154 rfl rfl ⟨rfl, _, rfl, ⟨by decide, by decide⟩, ⟨by omega, by omega, by unfold zx_form; repeat' split; all_goals omega⟩⟩
                  · exfalso; omega
                · show V 132 [some (ZR 0), some (ZI o), some (ZI (18 * o)), some (ZI (σ 6 ((18 * o) + 1))), some (ZI (σ 6 ((18 * o) + 4))), some (ZI r71)] [] 41 σ
                  refine zr_iconst (pc := 132) hV 3 dX12_formOf_132 rfl ?_
                  refine zr_goto (pc := 133) hV 154 dX12_formOf_133 (by decide) ?_
                  show V 154 [some (ZR 0), some (ZI o), some (ZI (18 * o)), some (ZI (σ 6 ((18 * o) + 1))), some (ZI (σ 6 ((18 * o) + 4))), some (ZI r71)] [ZI 3] 41 σ
                  exact zr_iret (pc := 154) hV dX12_formOf_154 rfl rfl ⟨rfl, _, rfl, ⟨by decide, by decide⟩, ⟨by omega, by omega, by unfold zx_form; repeat' split; all_goals omega⟩⟩
          · show V 81 [some (ZR 0), some (ZI o), some (ZI (18 * o)), some (ZI (σ 6 ((18 * o) + 1))), some (ZI (σ 6 ((18 * o) + 4))), some (ZI r71)] [] 41 σ
            refine zr_iload_n (pc := 81) hV dX12_formOf_81 rfl rfl ?_
            refine zr_iconst (pc := 82) hV 3 dX12_formOf_82 rfl ?_
            refine zr_icmp_ne (pc := 83) hV 97 dX12_formOf_83 (by decide) (by omega) ⟨by decide, by decide⟩ (fun c24 => ?_) (fun c24 => ?_)
            · show V 97 [some (ZR 0), some (ZI o), some (ZI (18 * o)), some (ZI (σ 6 ((18 * o) + 1))), some (ZI (σ 6 ((18 * o) + 4))), some (ZI r71)] [] 41 σ
              refine zr_iload_n (pc := 97) hV dX12_formOf_97 rfl rfl ?_
              refine zr_iconst (pc := 98) hV 1 dX12_formOf_98 rfl ?_
              refine zr_icmp_ne (pc := 99) hV 112 dX12_formOf_99 (by decide) (by omega) ⟨by decide, by decide⟩ (fun c25 => ?_) (fun c25 => ?_)
              · show V 112 [some (ZR 0), some (ZI o), some (ZI (18 * o)), some (ZI (σ 6 ((18 * o) + 1))), some (ZI (σ 6 ((18 * o) + 4))), some (ZI r71)] [] 41 σ
                refine zr_iconst (pc := 112) hV 0 dX12_formOf_112 rfl ?_
                show V 113 [some (ZR 0), some (ZI o), some (ZI (18 * o)), some (ZI (σ 6 ((18 * o) + 1))), some (ZI (σ 6 ((18 * o) + 4))), some (ZI r71)] [ZI 0] 41 σ
                exact zr_iret (pc := 113) hV dX12_formOf_113 rfl rfl ⟨rfl, _, rfl, ⟨by decide, by decide⟩, ⟨by omega, by omega, by unfold zx_form; repeat' split; all_goals omega⟩⟩
              · show V 102 [some (ZR 0), some (ZI o), some (ZI (18 * o)), some (ZI (σ 6 ((18 * o) + 1))), some (ZI (σ 6 ((18 * o) + 4))), some (ZI r71)] [] 41 σ
                refine zr_iload (pc := 102) hV dX12_formOf_102 rfl ?_
                refine zr_iconst (pc := 104) hV 3 dX12_formOf_104 rfl ?_
                refine zr_icmp_ne (pc := 105) hV 112 dX12_formOf_105 (by decide) (by omega) ⟨by decide, by decide⟩ (fun c26 => ?_) (fun c26 => ?_)
                · show V 112 [some (ZR 0), some (ZI o), some (ZI (18 * o)), some (ZI (σ 6 ((18 * o) + 1))), some (ZI (σ 6 ((18 * o) + 4))), some (ZI r71)] [] 41 σ
                  refine zr_iconst (pc := 112) hV 0 dX12_formOf_112 rfl ?_
                  show V 113 [some (ZR 0), some (ZI o), some (ZI (18 * o)), some (ZI (σ 6 ((18 * o) + 1))), some (ZI (σ 6 ((18 * o) + 4))), some (ZI r71)] [ZI 0] 41 σ
                  exact zr_iret (pc := 113) hV dX12_formOf_113 rfl rfl ⟨rfl, _, rfl, ⟨by decide, by decide⟩, ⟨by omega, by omega, by unfold zx_form; repeat' split; all_goals omega⟩⟩
                · show V 108 [some (ZR 0), some (ZI o), some (ZI (18 * o)), some (ZI (σ 6 ((18 * o) + 1))), some (ZI (σ 6 ((18 * o) + 4))), some (ZI r71)] [] 41 σ
                  refine zr_iconst (pc := 108) hV 2 dX12_formOf_108 rfl ?_
                  refine zr_goto (pc := 109) hV 113 dX12_formOf_109 (by decide) ?_
                  show V 113 [some (ZR 0), some (ZI o), some (ZI (18 * o)), some (ZI (σ 6 ((18 * o) + 1))), some (ZI (σ 6 ((18 * o) + 4))), some (ZI r71)] [ZI 2] 41 σ
                  exact zr_iret (pc := 113) hV dX12_formOf_113 rfl rfl ⟨rfl, _, rfl, ⟨by decide, by decide⟩, ⟨by omega, by omega, by unfold zx_form; repeat' split; all_goals omega⟩⟩
            · show V 86 [some (ZR 0), some (ZI o), some (ZI (18 * o)), some (ZI (σ 6 ((18 * o) + 1))), some (ZI (σ 6 ((18 * o) + 4))), some (ZI r71)] [] 41 σ
              refine zr_iload (pc := 86) hV dX12_formOf_86 rfl ?_
              refine zr_bipush (pc := 88) hV 9 dX12_formOf_88 (by decide) ?_
              refine zr_icmp_ne (pc := 90) hV 97 dX12_formOf_90 (by decide) (by omega) ⟨by decide, by decide⟩ (fun c27 => ?_) (fun c27 => ?_)
              · show V 97 [some (ZR 0), some (ZI o), some (ZI (18 * o)), some (ZI (σ 6 ((18 * o) + 1))), some (ZI (σ 6 ((18 * o) + 4))), some (ZI r71)] [] 41 σ
                refine zr_iload_n (pc := 97) hV dX12_formOf_97 rfl rfl ?_
                refine zr_iconst (pc := 98) hV 1 dX12_formOf_98 rfl ?_
                refine zr_icmp_ne (pc := 99) hV 112 dX12_formOf_99 (by decide) (by omega) ⟨by decide, by decide⟩ (fun c28 => ?_) (fun c28 => ?_)
                · show V 112 [some (ZR 0), some (ZI o), some (ZI (18 * o)), some (ZI (σ 6 ((18 * o) + 1))), some (ZI (σ 6 ((18 * o) + 4))), some (ZI r71)] [] 41 σ
                  refine zr_iconst (pc := 112) hV 0 dX12_formOf_112 rfl ?_
                  show V 113 [some (ZR 0), some (ZI o), some (ZI (18 * o)), some (ZI (σ 6 ((18 * o) + 1))), some (ZI (σ 6 ((18 * o) + 4))), some (ZI r71)] [ZI 0] 41 σ
                  exact zr_iret (pc := 113) hV dX12_formOf_113 rfl rfl ⟨rfl, _, rfl, ⟨by decide, by decide⟩, ⟨by omega, by omega, by unfold zx_form; repeat' split; all_goals omega⟩⟩
                · exfalso; omega
              · show V 93 [some (ZR 0), some (ZI o), some (ZI (18 * o)), some (ZI (σ 6 ((18 * o) + 1))), some (ZI (σ 6 ((18 * o) + 4))), some (ZI r71)] [] 41 σ
                refine zr_iconst (pc := 93) hV 1 dX12_formOf_93 rfl ?_
                refine zr_goto (pc := 94) hV 113 dX12_formOf_94 (by decide) ?_
                show V 113 [some (ZR 0), some (ZI o), some (ZI (18 * o)), some (ZI (σ 6 ((18 * o) + 1))), some (ZI (σ 6 ((18 * o) + 4))), some (ZI r71)] [ZI 1] 41 σ
                exact zr_iret (pc := 113) hV dX12_formOf_113 rfl rfl ⟨rfl, _, rfl, ⟨by decide, by decide⟩, ⟨by omega, by omega, by unfold zx_form; repeat' split; all_goals omega⟩⟩
        · show V 55 [some (ZR 0), some (ZI o), some (ZI (18 * o)), some (ZI (σ 6 ((18 * o) + 1))), none, none] [] 41 σ
          refine zr_iconst (pc := 55) hV (-1) dX12_formOf_55 rfl ?_
          refine zr_goto (pc := 56) hV 67 dX12_formOf_56 (by decide) ?_
          show V 67 [some (ZR 0), some (ZI o), some (ZI (18 * o)), some (ZI (σ 6 ((18 * o) + 1))), none, none] [ZI (-1)] 41 σ
          refine zr_istore (pc := 67) hV [some (ZR 0), some (ZI o), some (ZI (18 * o)), some (ZI (σ 6 ((18 * o) + 1))), some (ZI (-1)), none] dX12_formOf_67 (by decide) rfl rfl ?_
          refine zr_aload_n (pc := 69) hV dX12_formOf_69 rfl rfl ?_
          refine zr_iload_n (pc := 70) hV dX12_formOf_70 rfl rfl ?_
          refine zr_callVp (pc := 71) hV [ZI o] (st := []) (c_X12_fieldMask (σ := σ) hσ o (by omega)) dX12_formOf_71 mX12_274 rfl (by decide) (by decide) (Nat.le_of_ble_eq_true rfl) (Nat.le_refl _) (fun r71 hr71 pr71 => ?_)
          refine zr_istore (pc := 74) hV [some (ZR 0), some (ZI o), some (ZI (18 * o)), some (ZI (σ 6 ((18 * o) + 1))), some (ZI (-1)), some (ZI r71)] dX12_formOf_74 (by decide) rfl rfl ?_
          refine zr_iload (pc := 76) hV dX12_formOf_76 rfl ?_
          refine zr_if_ge (pc := 78) hV 114 dX12_formOf_78 (by decide) ⟨by decide, by decide⟩ (fun c29 => ?_) (fun c29 => ?_)
          · exfalso; omega
          · show V 81 [some (ZR 0), some (ZI o), some (ZI (18 * o)), some (ZI (σ 6 ((18 * o) + 1))), some (ZI (-1)), some (ZI r71)] [] 41 σ
            refine zr_iload_n (pc := 81) hV dX12_formOf_81 rfl rfl ?_
            refine zr_iconst (pc := 82) hV 3 dX12_formOf_82 rfl ?_
            refine zr_icmp_ne (pc := 83) hV 97 dX12_formOf_83 (by decide) (by omega) ⟨by decide, by decide⟩ (fun c30 => ?_) (fun c30 => ?_)
            · show V 97 [some (ZR 0), some (ZI o), some (ZI (18 * o)), some (ZI (σ 6 ((18 * o) + 1))), some (ZI (-1)), some (ZI r71)] [] 41 σ
              refine zr_iload_n (pc := 97) hV dX12_formOf_97 rfl rfl ?_
              refine zr_iconst (pc := 98) hV 1 dX12_formOf_98 rfl ?_
              refine zr_icmp_ne (pc := 99) hV 112 dX12_formOf_99 (by decide) (by omega) ⟨by decide, by decide⟩ (fun c31 => ?_) (fun c31 => ?_)
              · show V 112 [some (ZR 0), some (ZI o), some (ZI (18 * o)), some (ZI (σ 6 ((18 * o) + 1))), some (ZI (-1)), some (ZI r71)] [] 41 σ
                refine zr_iconst (pc := 112) hV 0 dX12_formOf_112 rfl ?_
                show V 113 [some (ZR 0), some (ZI o), some (ZI (18 * o)), some (ZI (σ 6 ((18 * o) + 1))), some (ZI (-1)), some (ZI r71)] [ZI 0] 41 σ
                exact zr_iret (pc := 113) hV dX12_formOf_113 rfl rfl ⟨rfl, _, rfl, ⟨by decide, by decide⟩, ⟨by omega, by omega, by unfold zx_form; repeat' split; all_goals omega⟩⟩
              · show V 102 [some (ZR 0), some (ZI o), some (ZI (18 * o)), some (ZI (σ 6 ((18 * o) + 1))), some (ZI (-1)), some (ZI r71)] [] 41 σ
                refine zr_iload (pc := 102) hV dX12_formOf_102 rfl ?_
                refine zr_iconst (pc := 104) hV 3 dX12_formOf_104 rfl ?_
                refine zr_icmp_ne (pc := 105) hV 112 dX12_formOf_105 (by decide) (by omega) ⟨by decide, by decide⟩ (fun c32 => ?_) (fun c32 => ?_)
                · show V 112 [some (ZR 0), some (ZI o), some (ZI (18 * o)), some (ZI (σ 6 ((18 * o) + 1))), some (ZI (-1)), some (ZI r71)] [] 41 σ
                  refine zr_iconst (pc := 112) hV 0 dX12_formOf_112 rfl ?_
                  show V 113 [some (ZR 0), some (ZI o), some (ZI (18 * o)), some (ZI (σ 6 ((18 * o) + 1))), some (ZI (-1)), some (ZI r71)] [ZI 0] 41 σ
                  exact zr_iret (pc := 113) hV dX12_formOf_113 rfl rfl ⟨rfl, _, rfl, ⟨by decide, by decide⟩, ⟨by omega, by omega, by unfold zx_form; repeat' split; all_goals omega⟩⟩
                · show V 108 [some (ZR 0), some (ZI o), some (ZI (18 * o)), some (ZI (σ 6 ((18 * o) + 1))), some (ZI (-1)), some (ZI r71)] [] 41 σ
                  refine zr_iconst (pc := 108) hV 2 dX12_formOf_108 rfl ?_
                  refine zr_goto (pc := 109) hV 113 dX12_formOf_109 (by decide) ?_
                  show V 113 [some (ZR 0), some (ZI o), some (ZI (18 * o)), some (ZI (σ 6 ((18 * o) + 1))), some (ZI (-1)), some (ZI r71)] [ZI 2] 41 σ
                  exact zr_iret (pc := 113) hV dX12_formOf_113 rfl rfl ⟨rfl, _, rfl, ⟨by decide, by decide⟩, ⟨by omega, by omega, by unfold zx_form; repeat' split; all_goals omega⟩⟩
            · show V 86 [some (ZR 0), some (ZI o), some (ZI (18 * o)), some (ZI (σ 6 ((18 * o) + 1))), some (ZI (-1)), some (ZI r71)] [] 41 σ
              refine zr_iload (pc := 86) hV dX12_formOf_86 rfl ?_
              refine zr_bipush (pc := 88) hV 9 dX12_formOf_88 (by decide) ?_
              refine zr_icmp_ne (pc := 90) hV 97 dX12_formOf_90 (by decide) (by omega) ⟨by decide, by decide⟩ (fun c33 => ?_) (fun c33 => ?_)
              · show V 97 [some (ZR 0), some (ZI o), some (ZI (18 * o)), some (ZI (σ 6 ((18 * o) + 1))), some (ZI (-1)), some (ZI r71)] [] 41 σ
                refine zr_iload_n (pc := 97) hV dX12_formOf_97 rfl rfl ?_
                refine zr_iconst (pc := 98) hV 1 dX12_formOf_98 rfl ?_
                refine zr_icmp_ne (pc := 99) hV 112 dX12_formOf_99 (by decide) (by omega) ⟨by decide, by decide⟩ (fun c34 => ?_) (fun c34 => ?_)
                · show V 112 [some (ZR 0), some (ZI o), some (ZI (18 * o)), some (ZI (σ 6 ((18 * o) + 1))), some (ZI (-1)), some (ZI r71)] [] 41 σ
                  refine zr_iconst (pc := 112) hV 0 dX12_formOf_112 rfl ?_
                  show V 113 [some (ZR 0), some (ZI o), some (ZI (18 * o)), some (ZI (σ 6 ((18 * o) + 1))), some (ZI (-1)), some (ZI r71)] [ZI 0] 41 σ
                  exact zr_iret (pc := 113) hV dX12_formOf_113 rfl rfl ⟨rfl, _, rfl, ⟨by decide, by decide⟩, ⟨by omega, by omega, by unfold zx_form; repeat' split; all_goals omega⟩⟩
                · exfalso; omega
              · show V 93 [some (ZR 0), some (ZI o), some (ZI (18 * o)), some (ZI (σ 6 ((18 * o) + 1))), some (ZI (-1)), some (ZI r71)] [] 41 σ
                refine zr_iconst (pc := 93) hV 1 dX12_formOf_93 rfl ?_
                refine zr_goto (pc := 94) hV 113 dX12_formOf_94 (by decide) ?_
                show V 113 [some (ZR 0), some (ZI o), some (ZI (18 * o)), some (ZI (σ 6 ((18 * o) + 1))), some (ZI (-1)), some (ZI r71)] [ZI 1] 41 σ
                exact zr_iret (pc := 113) hV dX12_formOf_113 rfl rfl ⟨rfl, _, rfl, ⟨by decide, by decide⟩, ⟨by omega, by omega, by unfold zx_form; repeat' split; all_goals omega⟩⟩
      · show V 33 [some (ZR 0), some (ZI o), some (ZI (18 * o)), none, none, none] [] 41 σ
        refine zr_iconst (pc := 33) hV 0 dX12_formOf_33 rfl ?_
        exact zr_iret (pc := 34) hV dX12_formOf_34 rfl rfl ⟨rfl, _, rfl, ⟨by decide, by decide⟩, ⟨by omega, by omega, by unfold zx_form; repeat' split; all_goals omega⟩⟩
set_option maxHeartbeats 800000 in
theorem c_X12_hasRoom {σ : zq_S} (hσ : zx_T σ) (o node : Int) (q0 : 0 ≤ o ∧ o ≤ 20) (q1 : 0 ≤ node ∧ node ≤ 39) : zq_C zx_w yX12_hasRoom cX12_hasRoom 3 (some .boolean) 1 24 41 41 [ZR 0, ZI o, ZI node] σ (zq_pp σ (fun r => (r = 0 ∨ r = 1))) := by
  refine zq_C_of (by decide) (Nat.le_refl _) (Nat.le_of_ble_eq_true rfl) [some (ZR 0), some (ZI o), some (ZI node)] rfl (fun V hV => ?_)
  show V 0 [some (ZR 0), some (ZI o), some (ZI node)] [] 41 σ
  refine zr_aload_n (pc := 0) hV dX12_hasRoom_0 rfl rfl ?_
  refine zr_getR (pc := 1) hV 38 21 dX12_hasRoom_1 fX12_87 rfl rfl rfl (by decide) (zx_g38 hσ) (by omega) ?_
  refine zr_iload_n (pc := 4) hV dX12_hasRoom_4 rfl rfl ?_
  refine zr_iald (pc := 5) hV dX12_hasRoom_5 rfl (by decide) rfl (by omega) ?_
  have t1 := zx_ga21 hσ node
  refine zr_iconst (pc := 6) hV 1 dX12_hasRoom_6 rfl ?_
  refine zr_icmp_ne (pc := 7) hV 30 dX12_hasRoom_7 (by decide) (by omega) ⟨by decide, by decide⟩ (fun c2 => ?_) (fun c2 => ?_)
  · show V 30 [some (ZR 0), some (ZI o), some (ZI node)] [] 41 σ
    refine zr_iconst (pc := 30) hV 0 dX12_hasRoom_30 rfl ?_
    show V 31 [some (ZR 0), some (ZI o), some (ZI node)] [ZI 0] 41 σ
    exact zr_zret (pc := 31) hV dX12_hasRoom_31 rfl rfl (by omega) ⟨rfl, _, rfl, ⟨by decide, by decide⟩, (by omega)⟩
  · show V 10 [some (ZR 0), some (ZI o), some (ZI node)] [] 41 σ
    refine zr_aload_n (pc := 10) hV dX12_hasRoom_10 rfl rfl ?_
    refine zr_getR (pc := 11) hV 39 22 dX12_hasRoom_11 fX12_90 rfl rfl rfl (by decide) (zx_g39 hσ) (by omega) ?_
    refine zr_iload_n (pc := 14) hV dX12_hasRoom_14 rfl rfl ?_
    refine zr_iald (pc := 15) hV dX12_hasRoom_15 rfl (by decide) rfl (by omega) ?_
    have t3 := zx_ga22 hσ node
    refine zr_aload_n (pc := 16) hV dX12_hasRoom_16 rfl rfl ?_
    refine zr_iload_n (pc := 17) hV dX12_hasRoom_17 rfl rfl ?_
    refine zr_iconst (pc := 18) hV 3 dX12_hasRoom_18 rfl ?_
    refine zr_callVp (pc := 19) hV [ZI o, ZI 3] (st := [ZI (σ 22 node)]) (c_X12_fieldBits (σ := σ) hσ o 3 (by omega) (by omega)) dX12_hasRoom_19 mX12_184 rfl (by decide) (by decide) (Nat.le_of_ble_eq_true rfl) (Nat.le_refl _) (fun r19 hr19 pr19 => ?_)
    have t4 := zx_g2 hσ
    refine zr_ishr (pc := 22) hV dX12_hasRoom_22 ?_
    have t5 := zq_shr_nn (x := σ 22 node) (y := r19) (by omega)
    refine zr_if_ne (pc := 23) hV 30 dX12_hasRoom_23 (by decide) (by omega) (fun c6 => ?_) (fun c6 => ?_)
    · show V 30 [some (ZR 0), some (ZI o), some (ZI node)] [] 41 σ
      refine zr_iconst (pc := 30) hV 0 dX12_hasRoom_30 rfl ?_
      show V 31 [some (ZR 0), some (ZI o), some (ZI node)] [ZI 0] 41 σ
      exact zr_zret (pc := 31) hV dX12_hasRoom_31 rfl rfl (by omega) ⟨rfl, _, rfl, ⟨by decide, by decide⟩, (by omega)⟩
    · show V 26 [some (ZR 0), some (ZI o), some (ZI node)] [] 41 σ
      refine zr_iconst (pc := 26) hV 1 dX12_hasRoom_26 rfl ?_
      refine zr_goto (pc := 27) hV 31 dX12_hasRoom_27 (by decide) ?_
      show V 31 [some (ZR 0), some (ZI o), some (ZI node)] [ZI 1] 41 σ
      exact zr_zret (pc := 31) hV dX12_hasRoom_31 rfl rfl (by omega) ⟨rfl, _, rfl, ⟨by decide, by decide⟩, (by omega)⟩
set_option maxHeartbeats 800000 in
theorem c_X12_about {σ : zq_S} (hσ : zx_T σ) (order what : Int) (q0 : zq_in order) (q1 : zq_in what) : zq_C zx_w yX12_about cX12_about 3 (some .int) 3 69 41 41 [ZR 0, ZI order, ZI what] σ (zq_pp σ (fun r => True)) := by
  refine zq_C_of (by decide) (Nat.le_refl _) (Nat.le_of_ble_eq_true rfl) [some (ZR 0), some (ZI order), some (ZI what)] rfl (fun V hV => ?_)
  show V 0 [some (ZR 0), some (ZI order), some (ZI what)] [] 41 σ
  refine zr_aload_n (pc := 0) hV dX12_about_0 rfl rfl ?_
  refine zr_iload_n (pc := 1) hV dX12_about_1 rfl rfl ?_
  refine zr_callVp (pc := 2) hV [ZI order] (st := []) (c_X12_isOrder (σ := σ) hσ order (by omega)) dX12_about_2 mX12_271 rfl (by decide) (by decide) (Nat.le_of_ble_eq_true rfl) (Nat.le_refl _) (fun r2 hr2 pr2 => ?_)
  have t1 := zx_g3 hσ
  refine zr_if_ne (pc := 5) hV 10 dX12_about_5 (by decide) (by omega) (fun c2 => ?_) (fun c2 => ?_)
  · show V 10 [some (ZR 0), some (ZI order), some (ZI what)] [] 41 σ
    refine zr_iload_n (pc := 10) hV dX12_about_10 rfl rfl ?_
    by_cases c3 : what = 0
    · refine zr_eqI (V := V) 0 c3 ?_
      refine zr_tableIn (pc := 11) hV 48 dX12_about_11 ⟨by decide, by decide⟩ (by decide) (by decide) rfl (by decide) ?_
      show V 48 [some (ZR 0), some (ZI order), some (ZI what)] [] 41 σ
      refine zr_aload_n (pc := 48) hV dX12_about_48 rfl rfl ?_
      refine zr_getR (pc := 49) hV 10 7 dX12_about_49 fX12_38 rfl rfl rfl (by decide) (zx_g10 hσ) (by omega) ?_
      refine zr_iload_n (pc := 52) hV dX12_about_52 rfl rfl ?_
      refine zr_iald (pc := 53) hV dX12_about_53 rfl (by decide) rfl (by omega) ?_
      have t4 := zx_ga7 hσ order
      exact zr_iret (pc := 54) hV dX12_about_54 rfl rfl ⟨rfl, _, rfl, (by omega), trivial⟩
    by_cases c5 : what = 1
    · refine zr_eqI (V := V) 1 c5 ?_
      refine zr_tableIn (pc := 11) hV 55 dX12_about_11 ⟨by decide, by decide⟩ (by decide) (by decide) rfl (by decide) ?_
      show V 55 [some (ZR 0), some (ZI order), some (ZI what)] [] 41 σ
      refine zr_aload_n (pc := 55) hV dX12_about_55 rfl rfl ?_
      refine zr_getR (pc := 56) hV 8 5 dX12_about_56 fX12_32 rfl rfl rfl (by decide) (zx_g8 hσ) (by omega) ?_
      refine zr_iload_n (pc := 59) hV dX12_about_59 rfl rfl ?_
      refine zr_iald (pc := 60) hV dX12_about_60 rfl (by decide) rfl (by omega) ?_
      have t6 := zx_ga5 hσ order
      exact zr_iret (pc := 61) hV dX12_about_61 rfl rfl ⟨rfl, _, rfl, (by omega), trivial⟩
    by_cases c7 : what = 2
    · refine zr_eqI (V := V) 2 c7 ?_
      refine zr_tableIn (pc := 11) hV 62 dX12_about_11 ⟨by decide, by decide⟩ (by decide) (by decide) rfl (by decide) ?_
      show V 62 [some (ZR 0), some (ZI order), some (ZI what)] [] 41 σ
      refine zr_aload_n (pc := 62) hV dX12_about_62 rfl rfl ?_
      refine zr_getR (pc := 63) hV 6 3 dX12_about_63 fX12_26 rfl rfl rfl (by decide) (zx_g6 hσ) (by omega) ?_
      refine zr_iload_n (pc := 66) hV dX12_about_66 rfl rfl ?_
      refine zr_iald (pc := 67) hV dX12_about_67 rfl (by decide) rfl (by omega) ?_
      have t8 := zx_ga3 hσ order
      exact zr_iret (pc := 68) hV dX12_about_68 rfl rfl ⟨rfl, _, rfl, (by omega), trivial⟩
    by_cases c9 : what = 3
    · refine zr_eqI (V := V) 3 c9 ?_
      refine zr_tableIn (pc := 11) hV 69 dX12_about_11 ⟨by decide, by decide⟩ (by decide) (by decide) rfl (by decide) ?_
      show V 69 [some (ZR 0), some (ZI order), some (ZI what)] [] 41 σ
      refine zr_aload_n (pc := 69) hV dX12_about_69 rfl rfl ?_
      refine zr_iload_n (pc := 70) hV dX12_about_70 rfl rfl ?_
      refine zr_callVp (pc := 71) hV [ZI order] (st := []) (c_X12_fieldMask (σ := σ) hσ order (by omega)) dX12_about_71 mX12_274 rfl (by decide) (by decide) (Nat.le_of_ble_eq_true rfl) (Nat.le_refl _) (fun r71 hr71 pr71 => ?_)
      exact zr_iret (pc := 74) hV dX12_about_74 rfl rfl ⟨rfl, _, rfl, (by omega), trivial⟩
    by_cases c10 : what = 4
    · refine zr_eqI (V := V) 4 c10 ?_
      refine zr_tableIn (pc := 11) hV 75 dX12_about_11 ⟨by decide, by decide⟩ (by decide) (by decide) rfl (by decide) ?_
      show V 75 [some (ZR 0), some (ZI order), some (ZI what)] [] 41 σ
      refine zr_aload_n (pc := 75) hV dX12_about_75 rfl rfl ?_
      refine zr_iload_n (pc := 76) hV dX12_about_76 rfl rfl ?_
      refine zr_iconst (pc := 77) hV 3 dX12_about_77 rfl ?_
      refine zr_callVp (pc := 78) hV [ZI order, ZI 3] (st := []) (c_X12_fieldBits (σ := σ) hσ order 3 (by omega) (by omega)) dX12_about_78 mX12_184 rfl (by decide) (by decide) (Nat.le_of_ble_eq_true rfl) (Nat.le_refl _) (fun r78 hr78 pr78 => ?_)
      have t11 := zx_g2 hσ
      exact zr_iret (pc := 81) hV dX12_about_81 rfl rfl ⟨rfl, _, rfl, (by omega), trivial⟩
    by_cases c12 : what = 5
    · refine zr_eqI (V := V) 5 c12 ?_
      refine zr_tableIn (pc := 11) hV 82 dX12_about_11 ⟨by decide, by decide⟩ (by decide) (by decide) rfl (by decide) ?_
      show V 82 [some (ZR 0), some (ZI order), some (ZI what)] [] 41 σ
      refine zr_aload_n (pc := 82) hV dX12_about_82 rfl rfl ?_
      refine zr_iload_n (pc := 83) hV dX12_about_83 rfl rfl ?_
      refine zr_callVp (pc := 84) hV [ZI order] (st := []) (c_X12_leastBits (σ := σ) hσ order (by omega)) dX12_about_84 mX12_277 rfl (by decide) (by decide) (Nat.le_of_ble_eq_true rfl) (Nat.le_refl _) (fun r84 hr84 pr84 => ?_)
      exact zr_iret (pc := 87) hV dX12_about_87 rfl rfl ⟨rfl, _, rfl, (by omega), trivial⟩
    refine zr_tableOut (pc := 11) hV 88 dX12_about_11 (by omega) (by omega) (by decide) ?_
    show V 88 [some (ZR 0), some (ZI order), some (ZI what)] [] 41 σ
    refine zr_iconst (pc := 88) hV (-1) dX12_about_88 rfl ?_
    exact zr_iret (pc := 89) hV dX12_about_89 rfl rfl ⟨rfl, _, rfl, ⟨by decide, by decide⟩, trivial⟩
  · show V 8 [some (ZR 0), some (ZI order), some (ZI what)] [] 41 σ
    refine zr_iconst (pc := 8) hV (-1) dX12_about_8 rfl ?_
    exact zr_iret (pc := 9) hV dX12_about_9 rfl rfl ⟨rfl, _, rfl, ⟨by decide, by decide⟩, trivial⟩
set_option maxHeartbeats 800000 in
theorem c_X12_value {σ : zq_S} (hσ : zx_T σ) (q0 : σ 0 36 = 1 → 1 ≤ σ 0 37) : zq_C zx_w yX12_value cX12_value 2 (some .int) 1 22 41 41 [ZR 0] σ (zq_pi (fun r τ => zx_T τ ∧ (∀ a i : Int, (a ≠ 37) → τ a i = σ a i) ∧ (True))) := by
  refine zq_C_of (by decide) (Nat.le_refl _) (Nat.le_of_ble_eq_true rfl) [some (ZR 0), none] rfl (fun V hV => ?_)
  have z37 := zx_g37 hσ
  show V 0 [some (ZR 0), none] [] 41 σ
  refine zr_aload_n (pc := 0) hV dX12_value_0 rfl rfl ?_
  refine zr_getI (pc := 1) hV 36 dX12_value_1 fX12_160 rfl rfl rfl (by decide) ?_
  have t1 := zx_g36 hσ
  refine zr_if_ne (pc := 4) hV 10 dX12_value_4 (by decide) (by omega) (fun c2 => ?_) (fun c2 => ?_)
  · show V 10 [some (ZR 0), none] [] 41 σ
    refine zr_iconst (pc := 10) hV 0 dX12_value_10 rfl ?_
    refine zr_istore_n (pc := 11) hV [some (ZR 0), some (ZI 0)] dX12_value_11 rfl (by decide) rfl rfl ?_
    have L12 : ∀ (fuel : Nat) (x1_12 : Int) (σ_12 : zq_S), (0 ≤ x1_12 ∧ x1_12 ≤ 39) → (zx_T σ_12) → (∀ a i : Int, (a ≠ 37) → σ_12 a i = σ a i) → 39 - x1_12 < (fuel : Int) → V 12 [some (ZR 0), some (ZI x1_12)] [] 41 σ_12 := by
      intro fuel
      induction fuel with
      | zero =>
        intro x1_12 σ_12 hx1_12 hσ_12 hFσ_12 hm12
        exfalso; omega
      | succ fuel ih =>
        intro x1_12 σ_12 hx1_12 hσ_12 hFσ_12 hm12
        have ih12 := ih
        show V 12 [some (ZR 0), some (ZI x1_12)] [] 41 σ_12
        refine zr_iload_n (pc := 12) hV dX12_value_12 rfl rfl ?_
        refine zr_aload_n (pc := 13) hV dX12_value_13 rfl rfl ?_
        refine zr_getI (pc := 14) hV 37 dX12_value_14 fX12_422 rfl rfl rfl (by decide) ?_
        have t3 := zx_g37 hσ_12
        have t4 : σ_12 0 37 = σ 0 37 := hFσ_12 _ _ (by omega)
        refine zr_icmp_ge (pc := 17) hV 110 dX12_value_17 (by decide) (by omega) (by omega) (fun c5 => ?_) (fun c5 => ?_)
        · show V 110 [some (ZR 0), some (ZI x1_12)] [] 41 σ_12
          refine zr_aload_n (pc := 110) hV dX12_value_110 rfl rfl ?_
          refine zr_getR (pc := 111) hV 60 37 dX12_value_111 fX12_135 rfl rfl rfl (by decide) (zx_g60 hσ_12) (by omega) ?_
          refine zr_aload_n (pc := 114) hV dX12_value_114 rfl rfl ?_
          refine zr_getI (pc := 115) hV 37 dX12_value_115 fX12_422 rfl rfl rfl (by decide) ?_
          have t6 := zx_g37 hσ_12
          have t7 : σ_12 0 37 = σ 0 37 := hFσ_12 _ _ (by omega)
          refine zr_iconst (pc := 118) hV 1 dX12_value_118 rfl ?_
          refine zr_isub (pc := 119) hV dX12_value_119 ?_
          refine zr_iald (pc := 120) hV dX12_value_120 rfl (by decide) rfl (by omega) ?_
          have t8 := zx_ga37 hσ_12 ((σ_12 0 37) - 1)
          exact zr_iret (pc := 121) hV dX12_value_121 rfl rfl ⟨_, rfl, (by omega), hσ_12, hFσ_12, trivial⟩
        · show V 20 [some (ZR 0), some (ZI x1_12)] [] 41 σ_12
          refine zr_aload_n (pc := 20) hV dX12_value_20 rfl rfl ?_
          refine zr_getR (pc := 21) hV 60 37 dX12_value_21 fX12_135 rfl rfl rfl (by decide) (zx_g60 hσ_12) (by omega) ?_
          refine zr_iload_n (pc := 24) hV dX12_value_24 rfl rfl ?_
          refine zr_aload_n (pc := 25) hV dX12_value_25 rfl rfl ?_
          refine zr_getR (pc := 26) hV 38 21 dX12_value_26 fX12_87 rfl rfl rfl (by decide) (zx_g38 hσ_12) (by omega) ?_
          refine zr_iload_n (pc := 29) hV dX12_value_29 rfl rfl ?_
          refine zr_iald (pc := 30) hV dX12_value_30 rfl (by decide) rfl (by omega) ?_
          have t9 := zx_ga21 hσ_12 x1_12
          have t10 : σ_12 21 x1_12 = σ 21 x1_12 := hFσ_12 _ _ (by omega)
          refine zr_if_ne (pc := 31) hV 48 dX12_value_31 (by decide) (by omega) (fun c11 => ?_) (fun c11 => ?_)
          · show V 48 [some (ZR 0), some (ZI x1_12)] [ZI x1_12, ZR 37] 41 σ_12
            refine zr_aload_n (pc := 48) hV dX12_value_48 rfl rfl ?_
            refine zr_getR (pc := 49) hV 38 21 dX12_value_49 fX12_87 rfl rfl rfl (by decide) (zx_g38 hσ_12) (by omega) ?_
            refine zr_iload_n (pc := 52) hV dX12_value_52 rfl rfl ?_
            refine zr_iald (pc := 53) hV dX12_value_53 rfl (by decide) rfl (by omega) ?_
            have t12 := zx_ga21 hσ_12 x1_12
            have t13 : σ_12 21 x1_12 = σ 21 x1_12 := hFσ_12 _ _ (by omega)
            refine zr_iconst (pc := 54) hV 1 dX12_value_54 rfl ?_
            refine zr_icmp_ne (pc := 55) hV 67 dX12_value_55 (by decide) (by omega) ⟨by decide, by decide⟩ (fun c14 => ?_) (fun c14 => ?_)
            · show V 67 [some (ZR 0), some (ZI x1_12)] [ZI x1_12, ZR 37] 41 σ_12
              refine zr_aload_n (pc := 67) hV dX12_value_67 rfl rfl ?_
              refine zr_getR (pc := 68) hV 39 22 dX12_value_68 fX12_90 rfl rfl rfl (by decide) (zx_g39 hσ_12) (by omega) ?_
              refine zr_iload_n (pc := 71) hV dX12_value_71 rfl rfl ?_
              refine zr_iald (pc := 72) hV dX12_value_72 rfl (by decide) rfl (by omega) ?_
              have t15 := zx_ga22 hσ_12 x1_12
              have t16 : σ_12 22 x1_12 = σ 22 x1_12 := hFσ_12 _ _ (by omega)
              refine zr_aload_n (pc := 73) hV dX12_value_73 rfl rfl ?_
              refine zr_getR (pc := 74) hV 60 37 dX12_value_74 fX12_135 rfl rfl rfl (by decide) (zx_g60 hσ_12) (by omega) ?_
              refine zr_aload_n (pc := 77) hV dX12_value_77 rfl rfl ?_
              refine zr_getR (pc := 78) hV 40 23 dX12_value_78 fX12_93 rfl rfl rfl (by decide) (zx_g40 hσ_12) (by omega) ?_
              refine zr_iload_n (pc := 81) hV dX12_value_81 rfl rfl ?_
              refine zr_iald (pc := 82) hV dX12_value_82 rfl (by decide) rfl (by omega) ?_
              have t17 := zx_ga23 hσ_12 x1_12
              have t18 : σ_12 23 x1_12 = σ 23 x1_12 := hFσ_12 _ _ (by omega)
              refine zr_iald (pc := 83) hV dX12_value_83 rfl (by decide) rfl (by omega) ?_
              have t19 := zx_ga37 hσ_12 (σ_12 23 x1_12)
              refine zr_aload_n (pc := 84) hV dX12_value_84 rfl rfl ?_
              refine zr_getR (pc := 85) hV 60 37 dX12_value_85 fX12_135 rfl rfl rfl (by decide) (zx_g60 hσ_12) (by omega) ?_
              refine zr_aload_n (pc := 88) hV dX12_value_88 rfl rfl ?_
              refine zr_getR (pc := 89) hV 41 24 dX12_value_89 fX12_96 rfl rfl rfl (by decide) (zx_g41 hσ_12) (by omega) ?_
              refine zr_iload_n (pc := 92) hV dX12_value_92 rfl rfl ?_
              refine zr_iald (pc := 93) hV dX12_value_93 rfl (by decide) rfl (by omega) ?_
              have t20 := zx_ga24 hσ_12 x1_12
              have t21 : σ_12 24 x1_12 = σ 24 x1_12 := hFσ_12 _ _ (by omega)
              refine zr_iald (pc := 94) hV dX12_value_94 rfl (by decide) rfl (by omega) ?_
              have t22 := zx_ga37 hσ_12 (σ_12 24 x1_12)
              refine zr_callSp (pc := 95) hV [ZI (σ_12 22 x1_12), ZI (σ_12 37 (σ_12 23 x1_12)), ZI (σ_12 37 (σ_12 24 x1_12))] (st := [ZI x1_12, ZR 37]) (c_X12_reckon (σ := σ_12) (σ_12 22 x1_12) (σ_12 37 (σ_12 23 x1_12)) (σ_12 37 (σ_12 24 x1_12)) (by omega) (by omega) (by omega)) dX12_value_95 mX12_304 (by decide) (Nat.le_of_ble_eq_true rfl) (Nat.le_refl _) (fun r95 hr95 pr95 => ?_)
              refine zr_aload_n (pc := 98) hV dX12_value_98 rfl rfl ?_
              refine zr_callVp (pc := 99) hV [] (st := [ZI r95, ZI x1_12, ZR 37]) (c_X12_mask (σ := σ_12) hσ_12 ) dX12_value_99 mX12_346 rfl (by decide) (by decide) (Nat.le_of_ble_eq_true rfl) (Nat.le_refl _) (fun r99 hr99 pr99 => ?_)
              refine zr_iand (pc := 102) hV dX12_value_102 ?_
              have t23 := zq_and_nnR (x := r95) (y := r99) (by omega)
              show V 103 [some (ZR 0), some (ZI x1_12)] [ZI (zq_and r95 r99), ZI x1_12, ZR 37] 41 σ_12
              refine zr_iast (pc := 103) hV dX12_value_103 rfl (by decide) rfl (by omega) (fun σ103 eσ103 => ?_)
              have hσ103 : zx_T σ103 := zx_ua37 eσ103 hσ_12 (by omega)
              have hFσ103 : ∀ a i : Int, (a ≠ 37) → σ103 a i = σ a i := fun a i h => by rw [eσ103, zq_up_ne (fun q => h q.1)]; exact hFσ_12 a i h
              refine zr_iinc (pc := 104) hV [some (ZR 0), some (ZI (x1_12 + 1))] (x1_12 + 1) dX12_value_104 rfl rfl (by decide) rfl rfl ?_
              refine zr_goto (pc := 107) hV 12 dX12_value_107 (by decide) ?_
              exact ih12 (x1_12 + 1) σ103 (by omega) hσ103 hFσ103 (by omega)
            · show V 58 [some (ZR 0), some (ZI x1_12)] [ZI x1_12, ZR 37] 41 σ_12
              refine zr_aload_n (pc := 58) hV dX12_value_58 rfl rfl ?_
              refine zr_getR (pc := 59) hV 39 22 dX12_value_59 fX12_90 rfl rfl rfl (by decide) (zx_g39 hσ_12) (by omega) ?_
              refine zr_iload_n (pc := 62) hV dX12_value_62 rfl rfl ?_
              refine zr_iald (pc := 63) hV dX12_value_63 rfl (by decide) rfl (by omega) ?_
              have t24 := zx_ga22 hσ_12 x1_12
              have t25 : σ_12 22 x1_12 = σ 22 x1_12 := hFσ_12 _ _ (by omega)
              refine zr_goto (pc := 64) hV 103 dX12_value_64 (by decide) ?_
              show V 103 [some (ZR 0), some (ZI x1_12)] [ZI (σ_12 22 x1_12), ZI x1_12, ZR 37] 41 σ_12
              refine zr_iast (pc := 103) hV dX12_value_103 rfl (by decide) rfl (by omega) (fun σ103 eσ103 => ?_)
              have hσ103 : zx_T σ103 := zx_ua37 eσ103 hσ_12 (by omega)
              have hFσ103 : ∀ a i : Int, (a ≠ 37) → σ103 a i = σ a i := fun a i h => by rw [eσ103, zq_up_ne (fun q => h q.1)]; exact hFσ_12 a i h
              refine zr_iinc (pc := 104) hV [some (ZR 0), some (ZI (x1_12 + 1))] (x1_12 + 1) dX12_value_104 rfl rfl (by decide) rfl rfl ?_
              refine zr_goto (pc := 107) hV 12 dX12_value_107 (by decide) ?_
              exact ih12 (x1_12 + 1) σ103 (by omega) hσ103 hFσ103 (by omega)
          · show V 34 [some (ZR 0), some (ZI x1_12)] [ZI x1_12, ZR 37] 41 σ_12
            refine zr_aload_n (pc := 34) hV dX12_value_34 rfl rfl ?_
            refine zr_getR (pc := 35) hV 24 15 dX12_value_35 fX12_62 rfl rfl rfl (by decide) (zx_g24 hσ_12) (by omega) ?_
            refine zr_aload_n (pc := 38) hV dX12_value_38 rfl rfl ?_
            refine zr_getR (pc := 39) hV 39 22 dX12_value_39 fX12_90 rfl rfl rfl (by decide) (zx_g39 hσ_12) (by omega) ?_
            refine zr_iload_n (pc := 42) hV dX12_value_42 rfl rfl ?_
            refine zr_iald (pc := 43) hV dX12_value_43 rfl (by decide) rfl (by omega) ?_
            have t26 := zx_ga22 hσ_12 x1_12
            have t27 : σ_12 22 x1_12 = σ 22 x1_12 := hFσ_12 _ _ (by omega)
            refine zr_iald (pc := 44) hV dX12_value_44 rfl (by decide) rfl (by omega) ?_
            have t28 := zx_stW hσ_12 (σ_12 22 x1_12) (by omega)
            have t29 : σ_12 15 (σ_12 22 x1_12) = σ 15 (σ_12 22 x1_12) := hFσ_12 _ _ (by omega)
            refine zr_goto (pc := 45) hV 103 dX12_value_45 (by decide) ?_
            show V 103 [some (ZR 0), some (ZI x1_12)] [ZI (σ_12 15 (σ_12 22 x1_12)), ZI x1_12, ZR 37] 41 σ_12
            refine zr_iast (pc := 103) hV dX12_value_103 rfl (by decide) rfl (by omega) (fun σ103 eσ103 => ?_)
            have hσ103 : zx_T σ103 := zx_ua37 eσ103 hσ_12 (by omega)
            have hFσ103 : ∀ a i : Int, (a ≠ 37) → σ103 a i = σ a i := fun a i h => by rw [eσ103, zq_up_ne (fun q => h q.1)]; exact hFσ_12 a i h
            refine zr_iinc (pc := 104) hV [some (ZR 0), some (ZI (x1_12 + 1))] (x1_12 + 1) dX12_value_104 rfl rfl (by decide) rfl rfl ?_
            refine zr_goto (pc := 107) hV 12 dX12_value_107 (by decide) ?_
            exact ih12 (x1_12 + 1) σ103 (by omega) hσ103 hFσ103 (by omega)
    exact L12 (39 - (0 : Int) + 1 : Int).toNat 0 σ (by omega) hσ (fun a i _ => rfl) (by omega)
  · show V 7 [some (ZR 0), none] [] 41 σ
    refine zr_bipush (pc := 7) hV (-2) dX12_value_7 (by decide) ?_
    exact zr_iret (pc := 9) hV dX12_value_9 rfl rfl ⟨_, rfl, ⟨by decide, by decide⟩, hσ, (fun a i _ => rfl), trivial⟩

