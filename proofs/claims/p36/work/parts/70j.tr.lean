set_option maxHeartbeats 800000 in
theorem c_X12_isBits2 {σ : zq_S} (hσ : zx_T σ) (bits : Int) (q0 : zq_in bits) : zq_C zx_w yX12_isBits cX12_isBits 2 (some .boolean) 1 25 41 41 [ZR 0, ZI bits] σ (zq_pp σ (fun r => (r = 0 ∨ r = 1) ∧ (r = 1 ↔ 0 ≤ bits ∧ bits < zx_p2 (σ 0 2)) ∧ (r = 1 → bits ≤ 4095))) := by
  refine zq_C_of (by decide) (Nat.le_refl _) (Nat.le_of_ble_eq_true rfl) [some (ZR 0), some (ZI bits)] rfl (fun V hV => ?_)
  show V 0 [some (ZR 0), some (ZI bits)] [] 41 σ
  refine zr_iload_n (pc := 0) hV dX12_isBits_0 rfl rfl ?_
  refine zr_i2l (pc := 1) hV dX12_isBits_1 (by omega) ?_
  refine zr_lconst (pc := 2) hV 0 dX12_isBits_2 (by decide) ?_
  refine zr_iconst (pc := 3) hV 1 dX12_isBits_3 rfl ?_
  refine zr_aload_n (pc := 4) hV dX12_isBits_4 rfl rfl ?_
  refine zr_getI (pc := 5) hV 2 dX12_isBits_5 fX12_16 rfl rfl rfl (by decide) ?_
  have t1 := zx_g2 hσ
  refine zr_ishl (pc := 8) hV dX12_isBits_8 ?_
  have t2 := zx_shl_one (y := σ 0 2) 12 4096 (by decide) (by decide) (by omega)
  refine zr_iconst (pc := 9) hV 1 dX12_isBits_9 rfl ?_
  refine zr_isub (pc := 10) hV dX12_isBits_10 ?_
  refine zr_i2l (pc := 11) hV dX12_isBits_11 (by omega) ?_
  refine zr_callSp (pc := 12) hV [ZL bits, ZL 0, ZL ((zq_shl 1 (σ 0 2)) - 1)] (st := []) (c_X12_in (σ := σ) bits 0 ((zq_shl 1 (σ 0 2)) - 1) (by omega) (by omega) (by omega)) dX12_isBits_12 mX12_170 (by decide) (Nat.le_of_ble_eq_true rfl) (Nat.le_refl _) (fun r12 hr12 pr12 => ?_)
  exact zr_zret (pc := 15) hV dX12_isBits_15 rfl rfl (by omega) ⟨rfl, _, rfl, (by omega), (by omega)⟩
set_option maxHeartbeats 800000 in
theorem c_X12_fieldOf2 {σ : zq_S} (hσ : zx_T σ) (order bits field : Int) (q0 : 0 ≤ order ∧ order ≤ 20) (q1 : zq_in bits) (q2 : 0 ≤ field ∧ field ≤ 3) (q3 : zx_B σ order) : zq_C zx_w yX12_fieldOf cX12_fieldOf 6 (some .int) 0 0 41 41 [ZR 0, ZI order, ZI bits, ZI field] σ (zq_pp σ (fun r => 0 ≤ r ∧ r ≤ 255 ∧ (field ≤ 2 → r ≤ 7) ∧ r = zu_rf σ order bits field)) := by
  refine zq_C_of (by decide) (Nat.le_refl _) (Nat.le_of_ble_eq_true rfl) [some (ZR 0), some (ZI order), some (ZI bits), some (ZI field), none, none] rfl (fun V hV => ?_)
  have z0 := zx_cnt_0 σ order field
  have z00 := zx_g2 hσ
  have z000 := zx_p2_0
  have zz0 : zx_p2 (zx_cnt σ order field 0) = 1 := by rw [z0]; exact z000
  show V 0 [some (ZR 0), some (ZI order), some (ZI bits), some (ZI field), none, none] [] 41 σ
  refine zr_iconst (pc := 0) hV 0 dX12_fieldOf_0 rfl ?_
  refine zr_istore (pc := 1) hV [some (ZR 0), some (ZI order), some (ZI bits), some (ZI field), some (ZI 0), none] dX12_fieldOf_1 (by decide) rfl rfl ?_
  refine zr_iconst (pc := 3) hV 0 dX12_fieldOf_3 rfl ?_
  refine zr_istore (pc := 4) hV [some (ZR 0), some (ZI order), some (ZI bits), some (ZI field), some (ZI 0), some (ZI 0)] dX12_fieldOf_4 (by decide) rfl rfl ?_
  have L6 : ∀ (fuel : Nat) (x4_6 : Int) (x5_6 : Int), (0 ≤ x4_6 ∧ x4_6 ≤ 4095) → (0 ≤ x5_6 ∧ x5_6 ≤ 12) → (x4_6 < zx_p2 (zx_cnt σ order field x5_6)) → (x5_6 ≤ σ 0 2) → (x4_6 = zu_fo (fun i => decide (zt_L σ order i = 2 + field)) (fun i => decide (zt_bi (σ 0 2) bits i = 1)) x5_6) → 12 - x5_6 < (fuel : Int) → V 6 [some (ZR 0), some (ZI order), some (ZI bits), some (ZI field), some (ZI x4_6), some (ZI x5_6)] [] 41 σ := by
    intro fuel
    induction fuel with
    | zero =>
      intro x4_6 x5_6 hx4_6 hx5_6 hi6_0 hi6_1 hi6_2 hm6
      exfalso; omega
    | succ fuel ih =>
      intro x4_6 x5_6 hx4_6 hx5_6 hi6_0 hi6_1 hi6_2 hm6
      have ih6 := ih
      show V 6 [some (ZR 0), some (ZI order), some (ZI bits), some (ZI field), some (ZI x4_6), some (ZI x5_6)] [] 41 σ
      refine zr_iload (pc := 6) hV dX12_fieldOf_6 rfl ?_
      refine zr_aload_n (pc := 8) hV dX12_fieldOf_8 rfl rfl ?_
      refine zr_getI (pc := 9) hV 2 dX12_fieldOf_9 fX12_16 rfl rfl rfl (by decide) ?_
      have t1 := zx_g2 hσ
      refine zr_icmp_ge (pc := 12) hV 64 dX12_fieldOf_12 (by decide) (by omega) (by omega) (fun c2 => ?_) (fun c2 => ?_)
      · show V 64 [some (ZR 0), some (ZI order), some (ZI bits), some (ZI field), some (ZI x4_6), some (ZI x5_6)] [] 41 σ
        have zr : x4_6 < zx_p2 (zx_cnt σ order field (σ 0 2)) := by rw [show σ 0 2 = x5_6 by omega]; exact hi6_0
        have zs := zx_fld q3 q2 zr
        refine zr_iload (pc := 64) hV dX12_fieldOf_64 rfl ?_
        exact zr_iret (pc := 66) hV dX12_fieldOf_66 rfl rfl ⟨rfl, _, rfl, (by omega), ⟨by omega, zs.2, zs.1, by unfold zu_rf; rw [show σ 0 2 = x5_6 by omega] at hi6_2 ⊢; exact hi6_2⟩⟩
      · show V 15 [some (ZR 0), some (ZI order), some (ZI bits), some (ZI field), some (ZI x4_6), some (ZI x5_6)] [] 41 σ
        have z1 := zx_cnt_s σ order field x5_6 (by omega)
        have z2 := zx_cnt_b σ order field x5_6 (by omega)
        have z3 := zx_p2_s (zx_cnt σ order field x5_6) (by omega)
        have z4 := zx_p2_le (m := zx_cnt σ order field x5_6) (n := 12) (by omega)
        have z5 : zx_cnt σ order field (x5_6 + 1) = zx_cnt σ order field x5_6 + 1 → zx_p2 (zx_cnt σ order field (x5_6 + 1)) = zx_p2 (zx_cnt σ order field x5_6 + 1) := fun h => by rw [h]
        have z6 : zx_cnt σ order field (x5_6 + 1) = zx_cnt σ order field x5_6 → zx_p2 (zx_cnt σ order field (x5_6 + 1)) = zx_p2 (zx_cnt σ order field x5_6) := fun h => by rw [h]
        have z7 := zx_p2_12
        have z8 := zx_cnt_b σ order field (x5_6 + 1) (by omega)
        have z9 := zx_p2_le (m := zx_cnt σ order field (x5_6 + 1)) (n := 12) (by omega)
        have zL1 : zt_L σ order x5_6 = σ 2 (12 * order + x5_6) := rfl
        have zB1 : zt_bi (σ 0 2) bits x5_6 = zq_and (zq_shr bits ((σ 0 2) - 1 - x5_6)) 1 := rfl
        refine zr_aload_n (pc := 15) hV dX12_fieldOf_15 rfl rfl ?_
        refine zr_getR (pc := 16) hV 5 2 dX12_fieldOf_16 fX12_23 rfl rfl rfl (by decide) (zx_g5 hσ) (by omega) ?_
        refine zr_bipush (pc := 19) hV 12 dX12_fieldOf_19 (by decide) ?_
        refine zr_iload_n (pc := 21) hV dX12_fieldOf_21 rfl rfl ?_
        refine zr_imul (pc := 22) hV dX12_fieldOf_22 ?_
        refine zr_iload (pc := 23) hV dX12_fieldOf_23 rfl ?_
        refine zr_iadd (pc := 25) hV dX12_fieldOf_25 ?_
        refine zr_iald (pc := 26) hV dX12_fieldOf_26 rfl (by decide) rfl (by omega) ?_
        have t3 := zx_ga2 hσ ((12 * order) + x5_6)
        refine zr_iconst (pc := 27) hV 2 dX12_fieldOf_27 rfl ?_
        refine zr_iload_n (pc := 28) hV dX12_fieldOf_28 rfl rfl ?_
        refine zr_iadd (pc := 29) hV dX12_fieldOf_29 ?_
        refine zr_icmp_ne (pc := 30) hV 54 dX12_fieldOf_30 (by decide) (by omega) (by omega) (fun c4 => ?_) (fun c4 => ?_)
        · show V 54 [some (ZR 0), some (ZI order), some (ZI bits), some (ZI field), some (ZI x4_6), some (ZI x5_6)] [] 41 σ
          refine zr_iload (pc := 54) hV dX12_fieldOf_54 rfl ?_
          show V 56 [some (ZR 0), some (ZI order), some (ZI bits), some (ZI field), some (ZI x4_6), some (ZI x5_6)] [ZI x4_6] 41 σ
          refine zr_istore (pc := 56) hV [some (ZR 0), some (ZI order), some (ZI bits), some (ZI field), some (ZI x4_6), some (ZI x5_6)] dX12_fieldOf_56 (by decide) rfl rfl ?_
          refine zr_iinc (pc := 58) hV [some (ZR 0), some (ZI order), some (ZI bits), some (ZI field), some (ZI x4_6), some (ZI (x5_6 + 1))] (x5_6 + 1) dX12_fieldOf_58 rfl rfl (by decide) rfl rfl ?_
          refine zr_goto (pc := 61) hV 6 dX12_fieldOf_61 (by decide) ?_
          have t5 := zx_g2 hσ
          have t6 := zx_g2 hσ
          exact ih6 x4_6 (x5_6 + 1) (by omega) (by omega) (by omega) (by omega) (by rw [zu_fo_n (by omega) (fun q => absurd (of_decide_eq_true q) (by omega))]; exact hi6_2) (by omega)
        · show V 33 [some (ZR 0), some (ZI order), some (ZI bits), some (ZI field), some (ZI x4_6), some (ZI x5_6)] [] 41 σ
          refine zr_iconst (pc := 33) hV 2 dX12_fieldOf_33 rfl ?_
          refine zr_iload (pc := 34) hV dX12_fieldOf_34 rfl ?_
          refine zr_imul (pc := 36) hV dX12_fieldOf_36 ?_
          refine zr_iload_n (pc := 37) hV dX12_fieldOf_37 rfl rfl ?_
          refine zr_aload_n (pc := 38) hV dX12_fieldOf_38 rfl rfl ?_
          refine zr_getI (pc := 39) hV 2 dX12_fieldOf_39 fX12_16 rfl rfl rfl (by decide) ?_
          have t7 := zx_g2 hσ
          refine zr_iconst (pc := 42) hV 1 dX12_fieldOf_42 rfl ?_
          refine zr_isub (pc := 43) hV dX12_fieldOf_43 ?_
          refine zr_iload (pc := 44) hV dX12_fieldOf_44 rfl ?_
          refine zr_isub (pc := 46) hV dX12_fieldOf_46 ?_
          refine zr_ishr (pc := 47) hV dX12_fieldOf_47 ?_
          have t8 := zq_shr_in bits (((σ 0 2) - 1) - x5_6)
          refine zr_iconst (pc := 48) hV 1 dX12_fieldOf_48 rfl ?_
          refine zr_iand (pc := 49) hV dX12_fieldOf_49 ?_
          have t9 := zq_and_mask (zq_shr bits (((σ 0 2) - 1) - x5_6)) 1 1 2 (by decide) (by decide) (by decide)
          refine zr_iadd (pc := 50) hV dX12_fieldOf_50 ?_
          refine zr_goto (pc := 51) hV 56 dX12_fieldOf_51 (by decide) ?_
          show V 56 [some (ZR 0), some (ZI order), some (ZI bits), some (ZI field), some (ZI x4_6), some (ZI x5_6)] [ZI ((2 * x4_6) + (zq_and (zq_shr bits (((σ 0 2) - 1) - x5_6)) 1))] 41 σ
          refine zr_istore (pc := 56) hV [some (ZR 0), some (ZI order), some (ZI bits), some (ZI field), some (ZI ((2 * x4_6) + (zq_and (zq_shr bits (((σ 0 2) - 1) - x5_6)) 1))), some (ZI x5_6)] dX12_fieldOf_56 (by decide) rfl rfl ?_
          refine zr_iinc (pc := 58) hV [some (ZR 0), some (ZI order), some (ZI bits), some (ZI field), some (ZI ((2 * x4_6) + (zq_and (zq_shr bits (((σ 0 2) - 1) - x5_6)) 1))), some (ZI (x5_6 + 1))] (x5_6 + 1) dX12_fieldOf_58 rfl rfl (by decide) rfl rfl ?_
          refine zr_goto (pc := 61) hV 6 dX12_fieldOf_61 (by decide) ?_
          have t10 := zx_g2 hσ
          have t11 := zx_g2 hσ
          exact ih6 ((2 * x4_6) + (zq_and (zq_shr bits (((σ 0 2) - 1) - x5_6)) 1)) (x5_6 + 1) (by omega) (by omega) (by omega) (by omega) (if hb : zt_bi (σ 0 2) bits x5_6 = 1 then (by rw [zu_fo_1 (by omega) (decide_eq_true (by omega)) (decide_eq_true hb), ← hi6_2]; omega) else (by rw [zu_fo_0 (by omega) (decide_eq_true (by omega)) (fun q => hb (of_decide_eq_true q)), ← hi6_2]; omega)) (by omega)
  have t12 := zx_g2 hσ
  have t13 := zx_g2 hσ
  exact L6 (12 - (0 : Int) + 1 : Int).toNat 0 0 (by omega) (by omega) (by omega) (by omega) (zu_fo_z _ _).symm (by omega)
