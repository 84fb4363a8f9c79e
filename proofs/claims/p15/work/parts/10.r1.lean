set_option maxHeartbeats 800000 in
theorem c_X12_in {σ : zq_S} (v low high : Int) (q0 : zq_inL v) (q1 : zq_inL low) (q2 : zq_inL high) : zq_C zx_w yX12_in cX12_in 6 (some .boolean) 0 0 41 41 [ZL v, ZL low, ZL high] σ (zq_pp σ (fun r => (r = 0 ∨ r = 1) ∧ (r = 1 ↔ low ≤ v ∧ v ≤ high))) := by
  refine zq_C_of (by decide) (Nat.le_refl _) (Nat.le_of_ble_eq_true rfl) [some (ZL v), none, some (ZL low), none, some (ZL high), none] rfl (fun V hV => ?_)
  show V 0 [some (ZL v), none, some (ZL low), none, some (ZL high), none] [] 41 σ
  refine zr_lload_n (pc := 0) hV dX12_in_0 rfl rfl ?_
  refine zr_lload_n (pc := 1) hV dX12_in_1 rfl rfl ?_
  refine zr_lcmp (pc := 2) hV dX12_in_2 (by omega) (by omega) ?_
  have t1 := zq_cmp_b v low
  refine zr_if_lt (pc := 3) hV 17 dX12_in_3 (by decide) (by omega) (fun c2 => ?_) (fun c2 => ?_)
  · show V 17 [some (ZL v), none, some (ZL low), none, some (ZL high), none] [] 41 σ
    refine zr_iconst (pc := 17) hV 0 dX12_in_17 rfl ?_
    show V 18 [some (ZL v), none, some (ZL low), none, some (ZL high), none] [ZI 0] 41 σ
    exact zr_zret (pc := 18) hV dX12_in_18 rfl rfl (by omega) ⟨rfl, _, rfl, ⟨by decide, by decide⟩, (by omega)⟩
  · show V 6 [some (ZL v), none, some (ZL low), none, some (ZL high), none] [] 41 σ
    refine zr_lload_n (pc := 6) hV dX12_in_6 rfl rfl ?_
    refine zr_lload (pc := 7) hV dX12_in_7 rfl ?_
    refine zr_lcmp (pc := 9) hV dX12_in_9 (by omega) (by omega) ?_
    have t3 := zq_cmp_b v high
    refine zr_if_gt (pc := 10) hV 17 dX12_in_10 (by decide) (by omega) (fun c4 => ?_) (fun c4 => ?_)
    · show V 17 [some (ZL v), none, some (ZL low), none, some (ZL high), none] [] 41 σ
      refine zr_iconst (pc := 17) hV 0 dX12_in_17 rfl ?_
      show V 18 [some (ZL v), none, some (ZL low), none, some (ZL high), none] [ZI 0] 41 σ
      exact zr_zret (pc := 18) hV dX12_in_18 rfl rfl (by omega) ⟨rfl, _, rfl, ⟨by decide, by decide⟩, (by omega)⟩
    · show V 13 [some (ZL v), none, some (ZL low), none, some (ZL high), none] [] 41 σ
      refine zr_iconst (pc := 13) hV 1 dX12_in_13 rfl ?_
      refine zr_goto (pc := 14) hV 18 dX12_in_14 (by decide) ?_
      show V 18 [some (ZL v), none, some (ZL low), none, some (ZL high), none] [ZI 1] 41 σ
      exact zr_zret (pc := 18) hV dX12_in_18 rfl rfl (by omega) ⟨rfl, _, rfl, ⟨by decide, by decide⟩, (by omega)⟩
set_option maxHeartbeats 800000 in
theorem c_X12_mask {σ : zq_S} (hσ : zx_T σ)  : zq_C zx_w yX12_mask cX12_mask 1 (some .int) 0 0 41 41 [ZR 0] σ (zq_pp σ (fun r => 0 ≤ r ∧ r ≤ 255)) := by
  refine zq_C_of (by decide) (Nat.le_refl _) (Nat.le_of_ble_eq_true rfl) [some (ZR 0)] rfl (fun V hV => ?_)
  show V 0 [some (ZR 0)] [] 41 σ
  refine zr_iconst (pc := 0) hV 1 dX12_mask_0 rfl ?_
  refine zr_aload_n (pc := 1) hV dX12_mask_1 rfl rfl ?_
  refine zr_getI (pc := 2) hV 0 dX12_mask_2 fX12_7 rfl rfl rfl (by decide) ?_
  have t1 := zx_g0 hσ
  refine zr_ishl (pc := 5) hV dX12_mask_5 ?_
  have t2 := zx_shl_one (y := σ 0 0) 8 256 (by decide) (by decide) (by omega)
  refine zr_iconst (pc := 6) hV 1 dX12_mask_6 rfl ?_
  refine zr_isub (pc := 7) hV dX12_mask_7 ?_
  exact zr_iret (pc := 8) hV dX12_mask_8 rfl rfl ⟨rfl, _, rfl, (by omega), (by omega)⟩
set_option maxHeartbeats 800000 in
theorem c_X12_isBits {σ : zq_S} (hσ : zx_T σ) (bits : Int) (q0 : zq_in bits) : zq_C zx_w yX12_isBits cX12_isBits 2 (some .boolean) 1 25 41 41 [ZR 0, ZI bits] σ (zq_pp σ (fun r => (r = 0 ∨ r = 1) ∧ (r = 1 → 0 ≤ bits ∧ bits < zx_p2 (σ 0 2) ∧ bits ≤ 4095))) := by
  refine zq_C_of (by decide) (Nat.le_refl _) (Nat.le_of_ble_eq_true rfl) [some (ZR 0), some (ZI bits)] rfl (fun V hV => ?_)
  show V 0 [some (ZR 0), some (ZI bits)] [] 41 σ
  refine zr_iload_n (pc := 0) hV dX12_isBits_0 rfl rfl ?_
  refine zr_i2l (pc := 1) hV dX12_isBits_1 (by omega) ?_
  refine zr_lconst (pc := 2) hV 0 dX12_isBits_2 (by decide) ?_
  refine zr_iconst (pc := 3) hV 1 dX12_isBits_3 rfl ?_
  refine zr_aload_n (pc := 4) hV dX12_isBits_4 rfl rfl ?_
  refine zr_getI (pc := 5) hV 2 dX12_isBits_5 fX12_16 rfl rfl rfl (by decide) ?_
  have t1 := zx_g2 hσ
  refine zr_ishl (pc := 8) hV dX12_isBits_8 ?_
  have t2 := zx_shl_one (y := σ 0 2) 12 4096 (by decide) (by decide) (by omega)
  refine zr_iconst (pc := 9) hV 1 dX12_isBits_9 rfl ?_
  refine zr_isub (pc := 10) hV dX12_isBits_10 ?_
  refine zr_i2l (pc := 11) hV dX12_isBits_11 (by omega) ?_
  refine zr_callSp (pc := 12) hV [ZL bits, ZL 0, ZL ((zq_shl 1 (σ 0 2)) - 1)] (st := []) (c_X12_in (σ := σ) bits 0 ((zq_shl 1 (σ 0 2)) - 1) (by omega) (by omega) (by omega)) dX12_isBits_12 mX12_170 (by decide) (Nat.le_of_ble_eq_true rfl) (Nat.le_refl _) (fun r12 hr12 pr12 => ?_)
  exact zr_zret (pc := 15) hV dX12_isBits_15 rfl rfl (by omega) ⟨rfl, _, rfl, (by omega), (by omega)⟩
set_option maxHeartbeats 800000 in
theorem c_X12_fieldBits {σ : zq_S} (hσ : zx_T σ) (order field : Int) (q0 : 0 ≤ order ∧ order ≤ 20) (q1 : 0 ≤ field ∧ field ≤ 3) : zq_C zx_w yX12_fieldBits cX12_fieldBits 5 (some .int) 0 0 41 41 [ZR 0, ZI order, ZI field] σ (zq_pp σ (fun r => 0 ≤ r ∧ r ≤ 12 ∧ r = zx_cnt σ order field (σ 0 2))) := by
  refine zq_C_of (by decide) (Nat.le_refl _) (Nat.le_of_ble_eq_true rfl) [some (ZR 0), some (ZI order), some (ZI field), none, none] rfl (fun V hV => ?_)
  have z0 := zx_cnt_0 σ order field
  have z00 := zx_g2 hσ
  show V 0 [some (ZR 0), some (ZI order), some (ZI field), none, none] [] 41 σ
  refine zr_iconst (pc := 0) hV 0 dX12_fieldBits_0 rfl ?_
  refine zr_istore_n (pc := 1) hV [some (ZR 0), some (ZI order), some (ZI field), some (ZI 0), none] dX12_fieldBits_1 rfl (by decide) rfl rfl ?_
  refine zr_iconst (pc := 2) hV 0 dX12_fieldBits_2 rfl ?_
  refine zr_istore (pc := 3) hV [some (ZR 0), some (ZI order), some (ZI field), some (ZI 0), some (ZI 0)] dX12_fieldBits_3 (by decide) rfl rfl ?_
  have L5 : ∀ (fuel : Nat) (x3_5 : Int) (x4_5 : Int), (0 ≤ x3_5 ∧ x3_5 ≤ 12) → (0 ≤ x4_5 ∧ x4_5 ≤ 12) → (x3_5 = zx_cnt σ order field x4_5) → (x4_5 ≤ σ 0 2) → 12 - x4_5 < (fuel : Int) → V 5 [some (ZR 0), some (ZI order), some (ZI field), some (ZI x3_5), some (ZI x4_5)] [] 41 σ := by
    intro fuel
    induction fuel with
    | zero =>
      intro x3_5 x4_5 hx3_5 hx4_5 hi5_0 hi5_1 hm5
      exfalso; omega
    | succ fuel ih =>
      intro x3_5 x4_5 hx3_5 hx4_5 hi5_0 hi5_1 hm5
      have ih5 := ih
      have z1 := zx_cnt_s σ order field x4_5 (by omega)
      have z2 := zx_cnt_b σ order field x4_5 (by omega)
      have z3 := zx_cnt_b σ order field (x4_5 + 1) (by omega)
      show V 5 [some (ZR 0), some (ZI order), some (ZI field), some (ZI x3_5), some (ZI x4_5)] [] 41 σ
      refine zr_iload (pc := 5) hV dX12_fieldBits_5 rfl ?_
      refine zr_aload_n (pc := 7) hV dX12_fieldBits_7 rfl rfl ?_
      refine zr_getI (pc := 8) hV 2 dX12_fieldBits_8 fX12_16 rfl rfl rfl (by decide) ?_
      have t1 := zx_g2 hσ
      refine zr_icmp_ge (pc := 11) hV 46 dX12_fieldBits_11 (by decide) (by omega) (by omega) (fun c2 => ?_) (fun c2 => ?_)
      · show V 46 [some (ZR 0), some (ZI order), some (ZI field), some (ZI x3_5), some (ZI x4_5)] [] 41 σ
        refine zr_iload_n (pc := 46) hV dX12_fieldBits_46 rfl rfl ?_
        exact zr_iret (pc := 47) hV dX12_fieldBits_47 rfl rfl ⟨rfl, _, rfl, (by omega), ⟨by omega, by omega, by rw [show σ 0 2 = x4_5 by omega]; exact hi5_0⟩⟩
      · show V 14 [some (ZR 0), some (ZI order), some (ZI field), some (ZI x3_5), some (ZI x4_5)] [] 41 σ
        refine zr_iload_n (pc := 14) hV dX12_fieldBits_14 rfl rfl ?_
        refine zr_aload_n (pc := 15) hV dX12_fieldBits_15 rfl rfl ?_
        refine zr_getR (pc := 16) hV 5 2 dX12_fieldBits_16 fX12_23 rfl rfl rfl (by decide) (zx_g5 hσ) (by omega) ?_
        refine zr_bipush (pc := 19) hV 12 dX12_fieldBits_19 (by decide) ?_
        refine zr_iload_n (pc := 21) hV dX12_fieldBits_21 rfl rfl ?_
        refine zr_imul (pc := 22) hV dX12_fieldBits_22 ?_
        refine zr_iload (pc := 23) hV dX12_fieldBits_23 rfl ?_
        refine zr_iadd (pc := 25) hV dX12_fieldBits_25 ?_
        refine zr_iald (pc := 26) hV dX12_fieldBits_26 rfl (by decide) rfl (by omega) ?_
        have t3 := zx_ga2 hσ ((12 * order) + x4_5)
        refine zr_iconst (pc := 27) hV 2 dX12_fieldBits_27 rfl ?_
        refine zr_iload_n (pc := 28) hV dX12_fieldBits_28 rfl rfl ?_
        refine zr_iadd (pc := 29) hV dX12_fieldBits_29 ?_
        refine zr_icmp_ne (pc := 30) hV 37 dX12_fieldBits_30 (by decide) (by omega) (by omega) (fun c4 => ?_) (fun c4 => ?_)
        · show V 37 [some (ZR 0), some (ZI order), some (ZI field), some (ZI x3_5), some (ZI x4_5)] [ZI x3_5] 41 σ
          refine zr_iconst (pc := 37) hV 0 dX12_fieldBits_37 rfl ?_
          show V 38 [some (ZR 0), some (ZI order), some (ZI field), some (ZI x3_5), some (ZI x4_5)] [ZI 0, ZI x3_5] 41 σ
          refine zr_iadd (pc := 38) hV dX12_fieldBits_38 ?_
          refine zr_istore_n (pc := 39) hV [some (ZR 0), some (ZI order), some (ZI field), some (ZI (x3_5 + 0)), some (ZI x4_5)] dX12_fieldBits_39 rfl (by decide) rfl rfl ?_
          refine zr_iinc (pc := 40) hV [some (ZR 0), some (ZI order), some (ZI field), some (ZI (x3_5 + 0)), some (ZI (x4_5 + 1))] (x4_5 + 1) dX12_fieldBits_40 rfl rfl (by decide) rfl rfl ?_
          refine zr_goto (pc := 43) hV 5 dX12_fieldBits_43 (by decide) ?_
          have t5 := zx_g2 hσ
          exact ih5 (x3_5 + 0) (x4_5 + 1) (by omega) (by omega) (by omega) (by omega) (by omega)
        · show V 33 [some (ZR 0), some (ZI order), some (ZI field), some (ZI x3_5), some (ZI x4_5)] [ZI x3_5] 41 σ
          refine zr_iconst (pc := 33) hV 1 dX12_fieldBits_33 rfl ?_
          refine zr_goto (pc := 34) hV 38 dX12_fieldBits_34 (by decide) ?_
          show V 38 [some (ZR 0), some (ZI order), some (ZI field), some (ZI x3_5), some (ZI x4_5)] [ZI 1, ZI x3_5] 41 σ
          refine zr_iadd (pc := 38) hV dX12_fieldBits_38 ?_
          refine zr_istore_n (pc := 39) hV [some (ZR 0), some (ZI order), some (ZI field), some (ZI (x3_5 + 1)), some (ZI x4_5)] dX12_fieldBits_39 rfl (by decide) rfl rfl ?_
          refine zr_iinc (pc := 40) hV [some (ZR 0), some (ZI order), some (ZI field), some (ZI (x3_5 + 1)), some (ZI (x4_5 + 1))] (x4_5 + 1) dX12_fieldBits_40 rfl rfl (by decide) rfl rfl ?_
          refine zr_goto (pc := 43) hV 5 dX12_fieldBits_43 (by decide) ?_
          have t6 := zx_g2 hσ
          exact ih5 (x3_5 + 1) (x4_5 + 1) (by omega) (by omega) (by omega) (by omega) (by omega)
  have t7 := zx_g2 hσ
  exact L5 (12 - (0 : Int) + 1 : Int).toNat 0 0 (by omega) (by omega) (by omega) (by omega) (by omega)
set_option maxHeartbeats 800000 in
theorem c_X12_leastBits {σ : zq_S} (hσ : zx_T σ) (order : Int) (q0 : 0 ≤ order ∧ order ≤ 20) : zq_C zx_w yX12_leastBits cX12_leastBits 4 (some .int) 0 0 41 41 [ZR 0, ZI order] σ (zq_pp σ (fun r => True)) := by
  refine zq_C_of (by decide) (Nat.le_refl _) (Nat.le_of_ble_eq_true rfl) [some (ZR 0), some (ZI order), none, none] rfl (fun V hV => ?_)
  show V 0 [some (ZR 0), some (ZI order), none, none] [] 41 σ
  refine zr_iconst (pc := 0) hV 0 dX12_leastBits_0 rfl ?_
  refine zr_istore_n (pc := 1) hV [some (ZR 0), some (ZI order), some (ZI 0), none] dX12_leastBits_1 rfl (by decide) rfl rfl ?_
  refine zr_iconst (pc := 2) hV 0 dX12_leastBits_2 rfl ?_
  refine zr_istore_n (pc := 3) hV [some (ZR 0), some (ZI order), some (ZI 0), some (ZI 0)] dX12_leastBits_3 rfl (by decide) rfl rfl ?_
  have L4 : ∀ (fuel : Nat) (x2_4 : Int) (x3_4 : Int), ((-2147483648) ≤ x2_4 ∧ x2_4 ≤ 2147483647) → (0 ≤ x3_4 ∧ x3_4 ≤ 12) → 12 - x3_4 < (fuel : Int) → V 4 [some (ZR 0), some (ZI order), some (ZI x2_4), some (ZI x3_4)] [] 41 σ := by
    intro fuel
    induction fuel with
    | zero =>
      intro x2_4 x3_4 hx2_4 hx3_4 hm4
      exfalso; omega
    | succ fuel ih =>
      intro x2_4 x3_4 hx2_4 hx3_4 hm4
      have ih4 := ih
      show V 4 [some (ZR 0), some (ZI order), some (ZI x2_4), some (ZI x3_4)] [] 41 σ
      refine zr_iload_n (pc := 4) hV dX12_leastBits_4 rfl rfl ?_
      refine zr_aload_n (pc := 5) hV dX12_leastBits_5 rfl rfl ?_
      refine zr_getI (pc := 6) hV 2 dX12_leastBits_6 fX12_16 rfl rfl rfl (by decide) ?_
      have t1 := zx_g2 hσ
      refine zr_icmp_ge (pc := 9) hV 43 dX12_leastBits_9 (by decide) (by omega) (by omega) (fun c2 => ?_) (fun c2 => ?_)
      · show V 43 [some (ZR 0), some (ZI order), some (ZI x2_4), some (ZI x3_4)] [] 41 σ
        refine zr_iload_n (pc := 43) hV dX12_leastBits_43 rfl rfl ?_
        exact zr_iret (pc := 44) hV dX12_leastBits_44 rfl rfl ⟨rfl, _, rfl, (by omega), trivial⟩
      · show V 12 [some (ZR 0), some (ZI order), some (ZI x2_4), some (ZI x3_4)] [] 41 σ
        refine zr_iconst (pc := 12) hV 2 dX12_leastBits_12 rfl ?_
        refine zr_iload_n (pc := 13) hV dX12_leastBits_13 rfl rfl ?_
        refine zr_imul (pc := 14) hV dX12_leastBits_14 ?_
        refine zr_any (pc := 15) hV (fun y15 hy15 _ => ?_)
        refine zr_aload_n (pc := 15) hV dX12_leastBits_15 rfl rfl ?_
        refine zr_getR (pc := 16) hV 5 2 dX12_leastBits_16 fX12_23 rfl rfl rfl (by decide) (zx_g5 hσ) (by omega) ?_
        refine zr_bipush (pc := 19) hV 12 dX12_leastBits_19 (by decide) ?_
        refine zr_iload_n (pc := 21) hV dX12_leastBits_21 rfl rfl ?_
        refine zr_imul (pc := 22) hV dX12_leastBits_22 ?_
        refine zr_iload_n (pc := 23) hV dX12_leastBits_23 rfl rfl ?_
        refine zr_iadd (pc := 24) hV dX12_leastBits_24 ?_
        refine zr_iald (pc := 25) hV dX12_leastBits_25 rfl (by decide) rfl (by omega) ?_
        have t3 := zx_ga2 hσ ((12 * order) + x3_4)
        refine zr_iconst (pc := 26) hV 1 dX12_leastBits_26 rfl ?_
        refine zr_icmp_ne (pc := 27) hV 34 dX12_leastBits_27 (by decide) (by omega) ⟨by decide, by decide⟩ (fun c4 => ?_) (fun c4 => ?_)
        · show V 34 [some (ZR 0), some (ZI order), some (ZI x2_4), some (ZI x3_4)] [ZI y15] 41 σ
          refine zr_iconst (pc := 34) hV 0 dX12_leastBits_34 rfl ?_
          show V 35 [some (ZR 0), some (ZI order), some (ZI x2_4), some (ZI x3_4)] [ZI 0, ZI y15] 41 σ
          refine zr_iadd (pc := 35) hV dX12_leastBits_35 ?_
          refine zr_istore_n (pc := 36) hV [some (ZR 0), some (ZI order), some (ZI (y15 + 0)), some (ZI x3_4)] dX12_leastBits_36 rfl (by decide) rfl rfl ?_
          refine zr_iinc (pc := 37) hV [some (ZR 0), some (ZI order), some (ZI (y15 + 0)), some (ZI (x3_4 + 1))] (x3_4 + 1) dX12_leastBits_37 rfl rfl (by decide) rfl rfl ?_
          refine zr_goto (pc := 40) hV 4 dX12_leastBits_40 (by decide) ?_
          exact ih4 (y15 + 0) (x3_4 + 1) (by omega) (by omega) (by omega)
        · show V 30 [some (ZR 0), some (ZI order), some (ZI x2_4), some (ZI x3_4)] [ZI y15] 41 σ
          refine zr_iconst (pc := 30) hV 1 dX12_leastBits_30 rfl ?_
          refine zr_goto (pc := 31) hV 35 dX12_leastBits_31 (by decide) ?_
          show V 35 [some (ZR 0), some (ZI order), some (ZI x2_4), some (ZI x3_4)] [ZI 1, ZI y15] 41 σ
          refine zr_iadd (pc := 35) hV dX12_leastBits_35 ?_
          refine zr_any (pc := 36) hV (fun y36 hy36 _ => ?_)
          refine zr_istore_n (pc := 36) hV [some (ZR 0), some (ZI order), some (ZI y36), some (ZI x3_4)] dX12_leastBits_36 rfl (by decide) rfl rfl ?_
          refine zr_iinc (pc := 37) hV [some (ZR 0), some (ZI order), some (ZI y36), some (ZI (x3_4 + 1))] (x3_4 + 1) dX12_leastBits_37 rfl rfl (by decide) rfl rfl ?_
          refine zr_goto (pc := 40) hV 4 dX12_leastBits_40 (by decide) ?_
          exact ih4 y36 (x3_4 + 1) (by omega) (by omega) (by omega)
  exact L4 (12 - (0 : Int) + 1 : Int).toNat 0 0 (by omega) (by omega) (by omega)
set_option maxHeartbeats 800000 in
theorem c_X12_isOrderOf {σ : zq_S} (hσ : zx_T σ) (order bits : Int) (q0 : 0 ≤ order ∧ order ≤ 20) (q1 : zq_in bits) : zq_C zx_w yX12_isOrderOf cX12_isOrderOf 6 (some .boolean) 0 0 41 41 [ZR 0, ZI order, ZI bits] σ (zq_pp σ (fun r => True)) := by
  refine zq_C_of (by decide) (Nat.le_refl _) (Nat.le_of_ble_eq_true rfl) [some (ZR 0), some (ZI order), some (ZI bits), none, none, none] rfl (fun V hV => ?_)
  show V 0 [some (ZR 0), some (ZI order), some (ZI bits), none, none, none] [] 41 σ
  refine zr_iconst (pc := 0) hV 1 dX12_isOrderOf_0 rfl ?_
  refine zr_istore_n (pc := 1) hV [some (ZR 0), some (ZI order), some (ZI bits), some (ZI 1), none, none] dX12_isOrderOf_1 rfl (by decide) rfl rfl ?_
  refine zr_iconst (pc := 2) hV 0 dX12_isOrderOf_2 rfl ?_
  refine zr_istore (pc := 3) hV [some (ZR 0), some (ZI order), some (ZI bits), some (ZI 1), some (ZI 0), none] dX12_isOrderOf_3 (by decide) rfl rfl ?_
  have L5 : ∀ (fuel : Nat) (x3_5 : Int) (x4_5 : Int), (0 ≤ x3_5 ∧ x3_5 ≤ 1) → (0 ≤ x4_5 ∧ x4_5 ≤ 12) → 12 - x4_5 < (fuel : Int) → V 5 [some (ZR 0), some (ZI order), some (ZI bits), some (ZI x3_5), some (ZI x4_5), none] [] 41 σ := by
    intro fuel
    induction fuel with
    | zero =>
      intro x3_5 x4_5 hx3_5 hx4_5 hm5
      exfalso; omega
    | succ fuel ih =>
      intro x3_5 x4_5 hx3_5 hx4_5 hm5
      have ih5 := ih
      show V 5 [some (ZR 0), some (ZI order), some (ZI bits), some (ZI x3_5), some (ZI x4_5), none] [] 41 σ
      refine zr_iload (pc := 5) hV dX12_isOrderOf_5 rfl ?_
      refine zr_aload_n (pc := 7) hV dX12_isOrderOf_7 rfl rfl ?_
      refine zr_getI (pc := 8) hV 2 dX12_isOrderOf_8 fX12_16 rfl rfl rfl (by decide) ?_
      have t1 := zx_g2 hσ
      refine zr_icmp_ge (pc := 11) hV 78 dX12_isOrderOf_11 (by decide) (by omega) (by omega) (fun c2 => ?_) (fun c2 => ?_)
      · show V 78 [some (ZR 0), some (ZI order), some (ZI bits), some (ZI x3_5), some (ZI x4_5), none] [] 41 σ
        refine zr_iload_n (pc := 78) hV dX12_isOrderOf_78 rfl rfl ?_
        exact zr_zret (pc := 79) hV dX12_isOrderOf_79 rfl rfl (by omega) ⟨rfl, _, rfl, (by omega), trivial⟩
      · show V 14 [some (ZR 0), some (ZI order), some (ZI bits), some (ZI x3_5), some (ZI x4_5), none] [] 41 σ
        refine zr_iload_n (pc := 14) hV dX12_isOrderOf_14 rfl rfl ?_
        refine zr_aload_n (pc := 15) hV dX12_isOrderOf_15 rfl rfl ?_
        refine zr_getI (pc := 16) hV 2 dX12_isOrderOf_16 fX12_16 rfl rfl rfl (by decide) ?_
        have t3 := zx_g2 hσ
        refine zr_iconst (pc := 19) hV 1 dX12_isOrderOf_19 rfl ?_
        refine zr_isub (pc := 20) hV dX12_isOrderOf_20 ?_
        refine zr_iload (pc := 21) hV dX12_isOrderOf_21 rfl ?_
        refine zr_isub (pc := 23) hV dX12_isOrderOf_23 ?_
        refine zr_ishr (pc := 24) hV dX12_isOrderOf_24 ?_
        have t4 := zq_shr_in bits (((σ 0 2) - 1) - x4_5)
        refine zr_iconst (pc := 25) hV 1 dX12_isOrderOf_25 rfl ?_
        refine zr_iand (pc := 26) hV dX12_isOrderOf_26 ?_
        have t5 := zq_and_mask (zq_shr bits (((σ 0 2) - 1) - x4_5)) 1 1 2 (by decide) (by decide) (by decide)
        refine zr_istore (pc := 27) hV [some (ZR 0), some (ZI order), some (ZI bits), some (ZI x3_5), some (ZI x4_5), some (ZI (zq_and (zq_shr bits (((σ 0 2) - 1) - x4_5)) 1))] dX12_isOrderOf_27 (by decide) rfl rfl ?_
        refine zr_iload_n (pc := 29) hV dX12_isOrderOf_29 rfl rfl ?_
        refine zr_if_eq (pc := 30) hV 70 dX12_isOrderOf_30 (by decide) (by omega) (fun c6 => ?_) (fun c6 => ?_)
        · show V 70 [some (ZR 0), some (ZI order), some (ZI bits), some (ZI x3_5), some (ZI x4_5), some (ZI (zq_and (zq_shr bits (((σ 0 2) - 1) - x4_5)) 1))] [] 41 σ
          refine zr_iconst (pc := 70) hV 0 dX12_isOrderOf_70 rfl ?_
          show V 71 [some (ZR 0), some (ZI order), some (ZI bits), some (ZI x3_5), some (ZI x4_5), some (ZI (zq_and (zq_shr bits (((σ 0 2) - 1) - x4_5)) 1))] [ZI 0] 41 σ
          refine zr_istore_n (pc := 71) hV [some (ZR 0), some (ZI order), some (ZI bits), some (ZI 0), some (ZI x4_5), some (ZI (zq_and (zq_shr bits (((σ 0 2) - 1) - x4_5)) 1))] dX12_isOrderOf_71 rfl (by decide) rfl rfl ?_
          refine zr_iinc (pc := 72) hV [some (ZR 0), some (ZI order), some (ZI bits), some (ZI 0), some (ZI (x4_5 + 1)), some (ZI (zq_and (zq_shr bits (((σ 0 2) - 1) - x4_5)) 1))] (x4_5 + 1) dX12_isOrderOf_72 rfl rfl (by decide) rfl rfl ?_
          refine zr_goto (pc := 75) hV 5 dX12_isOrderOf_75 (by decide) ?_
          refine zr_sub (pc := 5) hV [some (ZR 0), some (ZI order), some (ZI bits), some (ZI 0), some (ZI (x4_5 + 1)), none] (⟨rfl, rfl, rfl, rfl, rfl, trivial⟩) ?_
          exact ih5 0 (x4_5 + 1) (by omega) (by omega) (by omega)
        · show V 33 [some (ZR 0), some (ZI order), some (ZI bits), some (ZI x3_5), some (ZI x4_5), some (ZI (zq_and (zq_shr bits (((σ 0 2) - 1) - x4_5)) 1))] [] 41 σ
          refine zr_aload_n (pc := 33) hV dX12_isOrderOf_33 rfl rfl ?_
          refine zr_getR (pc := 34) hV 5 2 dX12_isOrderOf_34 fX12_23 rfl rfl rfl (by decide) (zx_g5 hσ) (by omega) ?_
          refine zr_bipush (pc := 37) hV 12 dX12_isOrderOf_37 (by decide) ?_
          refine zr_iload_n (pc := 39) hV dX12_isOrderOf_39 rfl rfl ?_
          refine zr_imul (pc := 40) hV dX12_isOrderOf_40 ?_
          refine zr_iload (pc := 41) hV dX12_isOrderOf_41 rfl ?_
          refine zr_iadd (pc := 43) hV dX12_isOrderOf_43 ?_
          refine zr_iald (pc := 44) hV dX12_isOrderOf_44 rfl (by decide) rfl (by omega) ?_
          have t7 := zx_ga2 hσ ((12 * order) + x4_5)
          refine zr_iconst (pc := 45) hV 1 dX12_isOrderOf_45 rfl ?_
          refine zr_icmp_gt (pc := 46) hV 66 dX12_isOrderOf_46 (by decide) (by omega) ⟨by decide, by decide⟩ (fun c8 => ?_) (fun c8 => ?_)
          · show V 66 [some (ZR 0), some (ZI order), some (ZI bits), some (ZI x3_5), some (ZI x4_5), some (ZI (zq_and (zq_shr bits (((σ 0 2) - 1) - x4_5)) 1))] [] 41 σ
            refine zr_iconst (pc := 66) hV 1 dX12_isOrderOf_66 rfl ?_
            refine zr_goto (pc := 67) hV 71 dX12_isOrderOf_67 (by decide) ?_
            show V 71 [some (ZR 0), some (ZI order), some (ZI bits), some (ZI x3_5), some (ZI x4_5), some (ZI (zq_and (zq_shr bits (((σ 0 2) - 1) - x4_5)) 1))] [ZI 1] 41 σ
            refine zr_istore_n (pc := 71) hV [some (ZR 0), some (ZI order), some (ZI bits), some (ZI 1), some (ZI x4_5), some (ZI (zq_and (zq_shr bits (((σ 0 2) - 1) - x4_5)) 1))] dX12_isOrderOf_71 rfl (by decide) rfl rfl ?_
            refine zr_iinc (pc := 72) hV [some (ZR 0), some (ZI order), some (ZI bits), some (ZI 1), some (ZI (x4_5 + 1)), some (ZI (zq_and (zq_shr bits (((σ 0 2) - 1) - x4_5)) 1))] (x4_5 + 1) dX12_isOrderOf_72 rfl rfl (by decide) rfl rfl ?_
            refine zr_goto (pc := 75) hV 5 dX12_isOrderOf_75 (by decide) ?_
            refine zr_sub (pc := 5) hV [some (ZR 0), some (ZI order), some (ZI bits), some (ZI 1), some (ZI (x4_5 + 1)), none] (⟨rfl, rfl, rfl, rfl, rfl, trivial⟩) ?_
            exact ih5 1 (x4_5 + 1) (by omega) (by omega) (by omega)
          · show V 49 [some (ZR 0), some (ZI order), some (ZI bits), some (ZI x3_5), some (ZI x4_5), some (ZI (zq_and (zq_shr bits (((σ 0 2) - 1) - x4_5)) 1))] [] 41 σ
            refine zr_aload_n (pc := 49) hV dX12_isOrderOf_49 rfl rfl ?_
            refine zr_getR (pc := 50) hV 5 2 dX12_isOrderOf_50 fX12_23 rfl rfl rfl (by decide) (zx_g5 hσ) (by omega) ?_
            refine zr_bipush (pc := 53) hV 12 dX12_isOrderOf_53 (by decide) ?_
            refine zr_iload_n (pc := 55) hV dX12_isOrderOf_55 rfl rfl ?_
            refine zr_imul (pc := 56) hV dX12_isOrderOf_56 ?_
            refine zr_iload (pc := 57) hV dX12_isOrderOf_57 rfl ?_
            refine zr_iadd (pc := 59) hV dX12_isOrderOf_59 ?_
            refine zr_iald (pc := 60) hV dX12_isOrderOf_60 rfl (by decide) rfl (by omega) ?_
            have t9 := zx_ga2 hσ ((12 * order) + x4_5)
            refine zr_iload (pc := 61) hV dX12_isOrderOf_61 rfl ?_
            refine zr_icmp_ne (pc := 63) hV 70 dX12_isOrderOf_63 (by decide) (by omega) (by omega) (fun c10 => ?_) (fun c10 => ?_)
            · show V 70 [some (ZR 0), some (ZI order), some (ZI bits), some (ZI x3_5), some (ZI x4_5), some (ZI (zq_and (zq_shr bits (((σ 0 2) - 1) - x4_5)) 1))] [] 41 σ
              refine zr_iconst (pc := 70) hV 0 dX12_isOrderOf_70 rfl ?_
              show V 71 [some (ZR 0), some (ZI order), some (ZI bits), some (ZI x3_5), some (ZI x4_5), some (ZI (zq_and (zq_shr bits (((σ 0 2) - 1) - x4_5)) 1))] [ZI 0] 41 σ
              refine zr_istore_n (pc := 71) hV [some (ZR 0), some (ZI order), some (ZI bits), some (ZI 0), some (ZI x4_5), some (ZI (zq_and (zq_shr bits (((σ 0 2) - 1) - x4_5)) 1))] dX12_isOrderOf_71 rfl (by decide) rfl rfl ?_
              refine zr_iinc (pc := 72) hV [some (ZR 0), some (ZI order), some (ZI bits), some (ZI 0), some (ZI (x4_5 + 1)), some (ZI (zq_and (zq_shr bits (((σ 0 2) - 1) - x4_5)) 1))] (x4_5 + 1) dX12_isOrderOf_72 rfl rfl (by decide) rfl rfl ?_
              refine zr_goto (pc := 75) hV 5 dX12_isOrderOf_75 (by decide) ?_
              refine zr_sub (pc := 5) hV [some (ZR 0), some (ZI order), some (ZI bits), some (ZI 0), some (ZI (x4_5 + 1)), none] (⟨rfl, rfl, rfl, rfl, rfl, trivial⟩) ?_
              exact ih5 0 (x4_5 + 1) (by omega) (by omega) (by omega)
            · show V 66 [some (ZR 0), some (ZI order), some (ZI bits), some (ZI x3_5), some (ZI x4_5), some (ZI (zq_and (zq_shr bits (((σ 0 2) - 1) - x4_5)) 1))] [] 41 σ
              refine zr_iconst (pc := 66) hV 1 dX12_isOrderOf_66 rfl ?_
              refine zr_goto (pc := 67) hV 71 dX12_isOrderOf_67 (by decide) ?_
              show V 71 [some (ZR 0), some (ZI order), some (ZI bits), some (ZI x3_5), some (ZI x4_5), some (ZI (zq_and (zq_shr bits (((σ 0 2) - 1) - x4_5)) 1))] [ZI 1] 41 σ
              refine zr_istore_n (pc := 71) hV [some (ZR 0), some (ZI order), some (ZI bits), some (ZI 1), some (ZI x4_5), some (ZI (zq_and (zq_shr bits (((σ 0 2) - 1) - x4_5)) 1))] dX12_isOrderOf_71 rfl (by decide) rfl rfl ?_
              refine zr_iinc (pc := 72) hV [some (ZR 0), some (ZI order), some (ZI bits), some (ZI 1), some (ZI (x4_5 + 1)), some (ZI (zq_and (zq_shr bits (((σ 0 2) - 1) - x4_5)) 1))] (x4_5 + 1) dX12_isOrderOf_72 rfl rfl (by decide) rfl rfl ?_
              refine zr_goto (pc := 75) hV 5 dX12_isOrderOf_75 (by decide) ?_
              refine zr_sub (pc := 5) hV [some (ZR 0), some (ZI order), some (ZI bits), some (ZI 1), some (ZI (x4_5 + 1)), none] (⟨rfl, rfl, rfl, rfl, rfl, trivial⟩) ?_
              exact ih5 1 (x4_5 + 1) (by omega) (by omega) (by omega)
  exact L5 (12 - (0 : Int) + 1 : Int).toNat 1 0 (by omega) (by omega) (by omega)
set_option maxHeartbeats 800000 in
theorem c_X12_orderOf {σ : zq_S} (hσ : zx_T σ) (bits : Int) (q0 : zq_in bits) : zq_C zx_w yX12_orderOf cX12_orderOf 3 (some .int) 1 25 41 41 [ZR 0, ZI bits] σ (zq_pp σ (fun r => -4 ≤ r ∧ r < 20 ∧ (0 ≤ r → r < σ 0 3))) := by
  refine zq_C_of (by decide) (Nat.le_refl _) (Nat.le_of_ble_eq_true rfl) [some (ZR 0), some (ZI bits), none] rfl (fun V hV => ?_)
  show V 0 [some (ZR 0), some (ZI bits), none] [] 41 σ
  refine zr_iconst (pc := 0) hV 0 dX12_orderOf_0 rfl ?_
  refine zr_istore_n (pc := 1) hV [some (ZR 0), some (ZI bits), some (ZI 0)] dX12_orderOf_1 rfl (by decide) rfl rfl ?_
  have L2 : ∀ (fuel : Nat) (x2_2 : Int), (0 ≤ x2_2 ∧ x2_2 ≤ 20) → 20 - x2_2 < (fuel : Int) → V 2 [some (ZR 0), some (ZI bits), some (ZI x2_2)] [] 41 σ := by
    intro fuel
    induction fuel with
    | zero =>
      intro x2_2 hx2_2 hm2
      exfalso; omega
    | succ fuel ih =>
      intro x2_2 hx2_2 hm2
      have ih2 := ih
      show V 2 [some (ZR 0), some (ZI bits), some (ZI x2_2)] [] 41 σ
      refine zr_iload_n (pc := 2) hV dX12_orderOf_2 rfl rfl ?_
      refine zr_aload_n (pc := 3) hV dX12_orderOf_3 rfl rfl ?_
      refine zr_getI (pc := 4) hV 3 dX12_orderOf_4 fX12_150 rfl rfl rfl (by decide) ?_
      have t1 := zx_g3 hσ
      refine zr_icmp_ge (pc := 7) hV 27 dX12_orderOf_7 (by decide) (by omega) (by omega) (fun c2 => ?_) (fun c2 => ?_)
      · show V 27 [some (ZR 0), some (ZI bits), some (ZI x2_2)] [] 41 σ
        refine zr_bipush (pc := 27) hV (-4) dX12_orderOf_27 (by decide) ?_
        exact zr_iret (pc := 29) hV dX12_orderOf_29 rfl rfl ⟨rfl, _, rfl, ⟨by decide, by decide⟩, (by omega)⟩
      · show V 10 [some (ZR 0), some (ZI bits), some (ZI x2_2)] [] 41 σ
        refine zr_aload_n (pc := 10) hV dX12_orderOf_10 rfl rfl ?_
        refine zr_iload_n (pc := 11) hV dX12_orderOf_11 rfl rfl ?_
        refine zr_iload_n (pc := 12) hV dX12_orderOf_12 rfl rfl ?_
        refine zr_callVp (pc := 13) hV [ZI x2_2, ZI bits] (st := []) (c_X12_isOrderOf (σ := σ) hσ x2_2 bits (by omega) (by omega)) dX12_orderOf_13 mX12_180 rfl (by decide) (by decide) (Nat.le_of_ble_eq_true rfl) (Nat.le_refl _) (fun r13 hr13 pr13 => ?_)
        refine zr_if_eq (pc := 16) hV 21 dX12_orderOf_16 (by decide) (by omega) (fun c3 => ?_) (fun c3 => ?_)
        · show V 21 [some (ZR 0), some (ZI bits), some (ZI x2_2)] [] 41 σ
          refine zr_iinc (pc := 21) hV [some (ZR 0), some (ZI bits), some (ZI (x2_2 + 1))] (x2_2 + 1) dX12_orderOf_21 rfl rfl (by decide) rfl rfl ?_
          refine zr_goto (pc := 24) hV 2 dX12_orderOf_24 (by decide) ?_
          exact ih2 (x2_2 + 1) (by omega) (by omega)
        · show V 19 [some (ZR 0), some (ZI bits), some (ZI x2_2)] [] 41 σ
          refine zr_iload_n (pc := 19) hV dX12_orderOf_19 rfl rfl ?_
          exact zr_iret (pc := 20) hV dX12_orderOf_20 rfl rfl ⟨rfl, _, rfl, (by omega), (by omega)⟩
  exact L2 (20 - (0 : Int) + 1 : Int).toNat 0 (by omega) (by omega)
set_option maxHeartbeats 800000 in
theorem c_X12_hasField {σ : zq_S} (hσ : zx_T σ) (order field : Int) (q0 : 0 ≤ order ∧ order ≤ 20) (q1 : 0 ≤ field ∧ field ≤ 3) : zq_C zx_w yX12_hasField cX12_hasField 3 (some .boolean) 1 24 41 41 [ZR 0, ZI order, ZI field] σ (zq_pp σ (fun r => (r = 0 ∨ r = 1) ∧ (r = 1 ↔ 0 < zx_cnt σ order field (σ 0 2)))) := by
  refine zq_C_of (by decide) (Nat.le_refl _) (Nat.le_of_ble_eq_true rfl) [some (ZR 0), some (ZI order), some (ZI field)] rfl (fun V hV => ?_)
  show V 0 [some (ZR 0), some (ZI order), some (ZI field)] [] 41 σ
  refine zr_aload_n (pc := 0) hV dX12_hasField_0 rfl rfl ?_
  refine zr_iload_n (pc := 1) hV dX12_hasField_1 rfl rfl ?_
  refine zr_iload_n (pc := 2) hV dX12_hasField_2 rfl rfl ?_
  refine zr_callVp (pc := 3) hV [ZI order, ZI field] (st := []) (c_X12_fieldBits (σ := σ) hσ order field (by omega) (by omega)) dX12_hasField_3 mX12_184 rfl (by decide) (by decide) (Nat.le_of_ble_eq_true rfl) (Nat.le_refl _) (fun r3 hr3 pr3 => ?_)
  have t1 := zx_g2 hσ
  refine zr_if_le (pc := 6) hV 13 dX12_hasField_6 (by decide) (by omega) (fun c2 => ?_) (fun c2 => ?_)
  · show V 13 [some (ZR 0), some (ZI order), some (ZI field)] [] 41 σ
    refine zr_iconst (pc := 13) hV 0 dX12_hasField_13 rfl ?_
    show V 14 [some (ZR 0), some (ZI order), some (ZI field)] [ZI 0] 41 σ
    exact zr_zret (pc := 14) hV dX12_hasField_14 rfl rfl (by omega) ⟨rfl, _, rfl, ⟨by decide, by decide⟩, (by omega)⟩
  · show V 9 [some (ZR 0), some (ZI order), some (ZI field)] [] 41 σ
    refine zr_iconst (pc := 9) hV 1 dX12_hasField_9 rfl ?_
    refine zr_goto (pc := 10) hV 14 dX12_hasField_10 (by decide) ?_
    show V 14 [some (ZR 0), some (ZI order), some (ZI field)] [ZI 1] 41 σ
    exact zr_zret (pc := 14) hV dX12_hasField_14 rfl rfl (by omega) ⟨rfl, _, rfl, ⟨by decide, by decide⟩, (by omega)⟩
set_option maxHeartbeats 800000 in
theorem c_X12_fieldMask {σ : zq_S} (hσ : zx_T σ) (order : Int) (q0 : 0 ≤ order ∧ order ≤ 20) : zq_C zx_w yX12_fieldMask cX12_fieldMask 4 (some .int) 2 46 41 41 [ZR 0, ZI order] σ (zq_pp σ (fun r => r = zx_fm σ order 4)) := by
  refine zq_C_of (by decide) (Nat.le_refl _) (Nat.le_of_ble_eq_true rfl) [some (ZR 0), some (ZI order), none, none] rfl (fun V hV => ?_)
  show V 0 [some (ZR 0), some (ZI order), none, none] [] 41 σ
  refine zr_iconst (pc := 0) hV 0 dX12_fieldMask_0 rfl ?_
  refine zr_istore_n (pc := 1) hV [some (ZR 0), some (ZI order), some (ZI 0), none] dX12_fieldMask_1 rfl (by decide) rfl rfl ?_
  refine zr_iconst (pc := 2) hV 0 dX12_fieldMask_2 rfl ?_
  refine zr_istore_n (pc := 3) hV [some (ZR 0), some (ZI order), some (ZI 0), some (ZI 0)] dX12_fieldMask_3 rfl (by decide) rfl rfl ?_
  have L4 : ∀ (fuel : Nat) (x2_4 : Int) (x3_4 : Int), ((-2147483648) ≤ x2_4 ∧ x2_4 ≤ 2147483647) → (0 ≤ x3_4 ∧ x3_4 ≤ 4) → (x2_4 = zx_fm σ order x3_4) → 4 - x3_4 < (fuel : Int) → V 4 [some (ZR 0), some (ZI order), some (ZI x2_4), some (ZI x3_4)] [] 41 σ := by
    intro fuel
    induction fuel with
    | zero =>
      intro x2_4 x3_4 hx2_4 hx3_4 hi4_0 hm4
      exfalso; omega
    | succ fuel ih =>
      intro x2_4 x3_4 hx2_4 hx3_4 hi4_0 hm4
      have ih4 := ih
      show V 4 [some (ZR 0), some (ZI order), some (ZI x2_4), some (ZI x3_4)] [] 41 σ
      refine zr_iload_n (pc := 4) hV dX12_fieldMask_4 rfl rfl ?_
      refine zr_iconst (pc := 5) hV 4 dX12_fieldMask_5 rfl ?_
      refine zr_icmp_ge (pc := 6) hV 34 dX12_fieldMask_6 (by decide) (by omega) ⟨by decide, by decide⟩ (fun c1 => ?_) (fun c1 => ?_)
      · show V 34 [some (ZR 0), some (ZI order), some (ZI x2_4), some (ZI x3_4)] [] 41 σ
        refine zr_iload_n (pc := 34) hV dX12_fieldMask_34 rfl rfl ?_
        exact zr_iret (pc := 35) hV dX12_fieldMask_35 rfl rfl ⟨rfl, _, rfl, (by omega), (by rw [show (4 : Int) = x3_4 by omega]; exact hi4_0)⟩
      · show V 9 [some (ZR 0), some (ZI order), some (ZI x2_4), some (ZI x3_4)] [] 41 σ
        refine zr_iload_n (pc := 9) hV dX12_fieldMask_9 rfl rfl ?_
        refine zr_aload_n (pc := 10) hV dX12_fieldMask_10 rfl rfl ?_
        refine zr_iload_n (pc := 11) hV dX12_fieldMask_11 rfl rfl ?_
        refine zr_iload_n (pc := 12) hV dX12_fieldMask_12 rfl rfl ?_
        refine zr_callVp (pc := 13) hV [ZI order, ZI x3_4] (st := [ZI x2_4]) (c_X12_hasField (σ := σ) hσ order x3_4 (by omega) (by omega)) dX12_fieldMask_13 mX12_188 rfl (by decide) (by decide) (Nat.le_of_ble_eq_true rfl) (Nat.le_refl _) (fun r13 hr13 pr13 => ?_)
        have t2 := zx_g2 hσ
        refine zr_if_eq (pc := 16) hV 25 dX12_fieldMask_16 (by decide) (by omega) (fun c3 => ?_) (fun c3 => ?_)
        · show V 25 [some (ZR 0), some (ZI order), some (ZI x2_4), some (ZI x3_4)] [ZI x2_4] 41 σ
          refine zr_iconst (pc := 25) hV 0 dX12_fieldMask_25 rfl ?_
          show V 26 [some (ZR 0), some (ZI order), some (ZI x2_4), some (ZI x3_4)] [ZI 0, ZI x2_4] 41 σ
          refine zr_ior (pc := 26) hV dX12_fieldMask_26 ?_
          have t4 := zq_or_in x2_4 0
          refine zr_istore_n (pc := 27) hV [some (ZR 0), some (ZI order), some (ZI (zq_or x2_4 0)), some (ZI x3_4)] dX12_fieldMask_27 rfl (by decide) rfl rfl ?_
          refine zr_iinc (pc := 28) hV [some (ZR 0), some (ZI order), some (ZI (zq_or x2_4 0)), some (ZI (x3_4 + 1))] (x3_4 + 1) dX12_fieldMask_28 rfl rfl (by decide) rfl rfl ?_
          refine zr_goto (pc := 31) hV 4 dX12_fieldMask_31 (by decide) ?_
          exact ih4 (zq_or x2_4 0) (x3_4 + 1) (by omega) (by omega) (by rw [(zx_fm_s σ order x3_4 (by omega)).2 (by omega), ← hi4_0]) (by omega)
        · show V 19 [some (ZR 0), some (ZI order), some (ZI x2_4), some (ZI x3_4)] [ZI x2_4] 41 σ
          refine zr_iconst (pc := 19) hV 1 dX12_fieldMask_19 rfl ?_
          refine zr_iload_n (pc := 20) hV dX12_fieldMask_20 rfl rfl ?_
          refine zr_ishl (pc := 21) hV dX12_fieldMask_21 ?_
          have t5 := zx_shl_one (y := x3_4) 3 8 (by decide) (by decide) (by omega)
          refine zr_goto (pc := 22) hV 26 dX12_fieldMask_22 (by decide) ?_
          show V 26 [some (ZR 0), some (ZI order), some (ZI x2_4), some (ZI x3_4)] [ZI (zq_shl 1 x3_4), ZI x2_4] 41 σ
          refine zr_ior (pc := 26) hV dX12_fieldMask_26 ?_
          have t6 := zq_or_in x2_4 (zq_shl 1 x3_4)
          refine zr_istore_n (pc := 27) hV [some (ZR 0), some (ZI order), some (ZI (zq_or x2_4 (zq_shl 1 x3_4))), some (ZI x3_4)] dX12_fieldMask_27 rfl (by decide) rfl rfl ?_
          refine zr_iinc (pc := 28) hV [some (ZR 0), some (ZI order), some (ZI (zq_or x2_4 (zq_shl 1 x3_4))), some (ZI (x3_4 + 1))] (x3_4 + 1) dX12_fieldMask_28 rfl rfl (by decide) rfl rfl ?_
          refine zr_goto (pc := 31) hV 4 dX12_fieldMask_31 (by decide) ?_
          exact ih4 (zq_or x2_4 (zq_shl 1 x3_4)) (x3_4 + 1) (by omega) (by omega) (by rw [(zx_fm_s σ order x3_4 (by omega)).1 (by omega), ← hi4_0]) (by omega)
  exact L4 (4 - (0 : Int) + 1 : Int).toNat 0 0 (by omega) (by omega) (zx_fm_0 σ order).symm (by omega)
set_option maxHeartbeats 800000 in
theorem c_X12_isOrder {σ : zq_S} (hσ : zx_T σ) (o : Int) (q0 : zq_in o) : zq_C zx_w yX12_isOrder cX12_isOrder 2 (some .boolean) 1 25 41 41 [ZR 0, ZI o] σ (zq_pp σ (fun r => (r = 0 ∨ r = 1) ∧ (r = 1 ↔ 0 ≤ o ∧ o < σ 0 3))) := by
  refine zq_C_of (by decide) (Nat.le_refl _) (Nat.le_of_ble_eq_true rfl) [some (ZR 0), some (ZI o)] rfl (fun V hV => ?_)
  show V 0 [some (ZR 0), some (ZI o)] [] 41 σ
  refine zr_iload_n (pc := 0) hV dX12_isOrder_0 rfl rfl ?_
  refine zr_i2l (pc := 1) hV dX12_isOrder_1 (by omega) ?_
  refine zr_lconst (pc := 2) hV 0 dX12_isOrder_2 (by decide) ?_
  refine zr_aload_n (pc := 3) hV dX12_isOrder_3 rfl rfl ?_
  refine zr_getI (pc := 4) hV 3 dX12_isOrder_4 fX12_150 rfl rfl rfl (by decide) ?_
  have t1 := zx_g3 hσ
  refine zr_iconst (pc := 7) hV 1 dX12_isOrder_7 rfl ?_
  refine zr_isub (pc := 8) hV dX12_isOrder_8 ?_
  refine zr_i2l (pc := 9) hV dX12_isOrder_9 (by omega) ?_
  refine zr_callSp (pc := 10) hV [ZL o, ZL 0, ZL ((σ 0 3) - 1)] (st := []) (c_X12_in (σ := σ) o 0 ((σ 0 3) - 1) (by omega) (by omega) (by omega)) dX12_isOrder_10 mX12_170 (by decide) (Nat.le_of_ble_eq_true rfl) (Nat.le_refl _) (fun r10 hr10 pr10 => ?_)
  exact zr_zret (pc := 13) hV dX12_isOrder_13 rfl rfl (by omega) ⟨rfl, _, rfl, (by omega), (by omega)⟩
set_option maxHeartbeats 800000 in
theorem c_X12_next {σ : zq_S} (hσ : zx_T σ)  : zq_C zx_w yX12_next cX12_next 1 (some .int) 0 0 41 41 [ZR 0] σ (zq_pi (fun r τ => zx_T τ ∧ (∀ a i : Int, (¬ (a = 0 ∧ i = 15)) → τ a i = σ a i) ∧ (σ 0 15 ≤ τ 0 15 ∧ (0 ≤ r → τ 0 15 < σ 0 14)) ∧ zq_hid ((τ 0 15 < σ 0 14 → r = σ 10 (τ 0 15) ∧ r ≠ 32) ∧ (σ 0 15 < σ 0 14 ∧ σ 10 (σ 0 15) ≠ 32 → τ 0 15 = σ 0 15)))) := by
  refine zq_C_of (by decide) (Nat.le_refl _) (Nat.le_of_ble_eq_true rfl) [some (ZR 0)] rfl (fun V hV => ?_)
  have L0 : ∀ (fuel : Nat) (σ_0 : zq_S), (zx_T σ_0) → (∀ a i : Int, (¬ (a = 0 ∧ i = 15)) → σ_0 a i = σ a i) → (σ 0 15 ≤ σ_0 0 15) → (σ 0 15 < σ 0 14 ∧ σ 10 (σ 0 15) ≠ 32 → σ_0 0 15 = σ 0 15) → 80 - σ_0 0 15 < (fuel : Int) → V 0 [some (ZR 0)] [] 41 σ_0 := by
    intro fuel
    induction fuel with
    | zero =>
      intro σ_0 hσ_0 hFσ_0 hi0_0 hi0_1 hm0
      have t1 := zx_g15 hσ_0
      exfalso; omega
    | succ fuel ih =>
      intro σ_0 hσ_0 hFσ_0 hi0_0 hi0_1 hm0
      have ih0 := ih
      show V 0 [some (ZR 0)] [] 41 σ_0
      refine zr_aload_n (pc := 0) hV dX12_next_0 rfl rfl ?_
      refine zr_getI (pc := 1) hV 15 dX12_next_1 fX12_200 rfl rfl rfl (by decide) ?_
      have t2 := zx_g15 hσ_0
      refine zr_aload_n (pc := 4) hV dX12_next_4 rfl rfl ?_
      refine zr_getI (pc := 5) hV 14 dX12_next_5 fX12_197 rfl rfl rfl (by decide) ?_
      have t3 := zx_g14 hσ_0
      have t4 : σ_0 0 14 = σ 0 14 := hFσ_0 _ _ (by omega)
      refine zr_icmp_ge (pc := 8) hV 38 dX12_next_8 (by decide) (by omega) (by omega) (fun c5 => ?_) (fun c5 => ?_)
      · show V 38 [some (ZR 0)] [] 41 σ_0
        refine zr_aload_n (pc := 38) hV dX12_next_38 rfl rfl ?_
        refine zr_getI (pc := 39) hV 15 dX12_next_39 fX12_200 rfl rfl rfl (by decide) ?_
        have t6 := zx_g15 hσ_0
        refine zr_aload_n (pc := 42) hV dX12_next_42 rfl rfl ?_
        refine zr_getI (pc := 43) hV 14 dX12_next_43 fX12_197 rfl rfl rfl (by decide) ?_
        have t7 := zx_g14 hσ_0
        have t8 : σ_0 0 14 = σ 0 14 := hFσ_0 _ _ (by omega)
        refine zr_icmp_ge (pc := 46) hV 61 dX12_next_46 (by decide) (by omega) (by omega) (fun c9 => ?_) (fun c9 => ?_)
        · show V 61 [some (ZR 0)] [] 41 σ_0
          refine zr_iconst (pc := 61) hV (-1) dX12_next_61 rfl ?_
          show V 62 [some (ZR 0)] [ZI (-1)] 41 σ_0
          have t10 := zx_g15 hσ_0
          have t11 := zx_g15 hσ_0
          exact zr_iret (pc := 62) hV dX12_next_62 rfl rfl ⟨_, rfl, ⟨by decide, by decide⟩, hσ_0, hFσ_0, (by omega), (show (σ_0 0 15 < σ 0 14 → ((-1) : Int) = σ 10 (σ_0 0 15) ∧ ((-1) : Int) ≠ 32) ∧ (σ 0 15 < σ 0 14 ∧ σ 10 (σ 0 15) ≠ 32 → σ_0 0 15 = σ 0 15) from (by omega))⟩
        · show V 49 [some (ZR 0)] [] 41 σ_0
          refine zr_aload_n (pc := 49) hV dX12_next_49 rfl rfl ?_
          refine zr_getR (pc := 50) hV 13 10 dX12_next_50 fX12_47 rfl rfl rfl (by decide) (zx_g13 hσ_0) (by omega) ?_
          refine zr_aload_n (pc := 53) hV dX12_next_53 rfl rfl ?_
          refine zr_getI (pc := 54) hV 15 dX12_next_54 fX12_200 rfl rfl rfl (by decide) ?_
          have t12 := zx_g15 hσ_0
          refine zr_iald (pc := 57) hV dX12_next_57 rfl (by decide) rfl (by omega) ?_
          have t13 := zx_ga10 hσ_0 (σ_0 0 15)
          have t14 : σ_0 10 (σ_0 0 15) = σ 10 (σ_0 0 15) := hFσ_0 _ _ (by omega)
          refine zr_goto (pc := 58) hV 62 dX12_next_58 (by decide) ?_
          show V 62 [some (ZR 0)] [ZI (σ_0 10 (σ_0 0 15))] 41 σ_0
          have t15 := zx_g15 hσ_0
          have t16 := zx_g15 hσ_0
          exact zr_iret (pc := 62) hV dX12_next_62 rfl rfl ⟨_, rfl, (by omega), hσ_0, hFσ_0, (by omega), (show (σ_0 0 15 < σ 0 14 → (σ_0 10 (σ_0 0 15)) = σ 10 (σ_0 0 15) ∧ (σ_0 10 (σ_0 0 15)) ≠ 32) ∧ (σ 0 15 < σ 0 14 ∧ σ 10 (σ 0 15) ≠ 32 → σ_0 0 15 = σ 0 15) from (by omega))⟩
      · show V 11 [some (ZR 0)] [] 41 σ_0
        refine zr_aload_n (pc := 11) hV dX12_next_11 rfl rfl ?_
        refine zr_getR (pc := 12) hV 13 10 dX12_next_12 fX12_47 rfl rfl rfl (by decide) (zx_g13 hσ_0) (by omega) ?_
        refine zr_aload_n (pc := 15) hV dX12_next_15 rfl rfl ?_
        refine zr_getI (pc := 16) hV 15 dX12_next_16 fX12_200 rfl rfl rfl (by decide) ?_
        have t17 := zx_g15 hσ_0
        refine zr_iald (pc := 19) hV dX12_next_19 rfl (by decide) rfl (by omega) ?_
        have t18 := zx_ga10 hσ_0 (σ_0 0 15)
        have t19 : σ_0 10 (σ_0 0 15) = σ 10 (σ_0 0 15) := hFσ_0 _ _ (by omega)
        refine zr_bipush (pc := 20) hV 32 dX12_next_20 (by decide) ?_
        refine zr_icmp_ne (pc := 22) hV 38 dX12_next_22 (by decide) (by omega) ⟨by decide, by decide⟩ (fun c20 => ?_) (fun c20 => ?_)
        · show V 38 [some (ZR 0)] [] 41 σ_0
          refine zr_aload_n (pc := 38) hV dX12_next_38 rfl rfl ?_
          refine zr_getI (pc := 39) hV 15 dX12_next_39 fX12_200 rfl rfl rfl (by decide) ?_
          have t21 := zx_g15 hσ_0
          refine zr_aload_n (pc := 42) hV dX12_next_42 rfl rfl ?_
          refine zr_getI (pc := 43) hV 14 dX12_next_43 fX12_197 rfl rfl rfl (by decide) ?_
          have t22 := zx_g14 hσ_0
          have t23 : σ_0 0 14 = σ 0 14 := hFσ_0 _ _ (by omega)
          refine zr_icmp_ge (pc := 46) hV 61 dX12_next_46 (by decide) (by omega) (by omega) (fun c24 => ?_) (fun c24 => ?_)
          · show V 61 [some (ZR 0)] [] 41 σ_0
            refine zr_iconst (pc := 61) hV (-1) dX12_next_61 rfl ?_
            show V 62 [some (ZR 0)] [ZI (-1)] 41 σ_0
            have t25 := zx_g15 hσ_0
            have t26 := zx_g15 hσ_0
            exact zr_iret (pc := 62) hV dX12_next_62 rfl rfl ⟨_, rfl, ⟨by decide, by decide⟩, hσ_0, hFσ_0, (by omega), (show (σ_0 0 15 < σ 0 14 → ((-1) : Int) = σ 10 (σ_0 0 15) ∧ ((-1) : Int) ≠ 32) ∧ (σ 0 15 < σ 0 14 ∧ σ 10 (σ 0 15) ≠ 32 → σ_0 0 15 = σ 0 15) from (by omega))⟩
          · show V 49 [some (ZR 0)] [] 41 σ_0
            refine zr_aload_n (pc := 49) hV dX12_next_49 rfl rfl ?_
            refine zr_getR (pc := 50) hV 13 10 dX12_next_50 fX12_47 rfl rfl rfl (by decide) (zx_g13 hσ_0) (by omega) ?_
            refine zr_aload_n (pc := 53) hV dX12_next_53 rfl rfl ?_
            refine zr_getI (pc := 54) hV 15 dX12_next_54 fX12_200 rfl rfl rfl (by decide) ?_
            have t27 := zx_g15 hσ_0
            refine zr_iald (pc := 57) hV dX12_next_57 rfl (by decide) rfl (by omega) ?_
            have t28 := zx_ga10 hσ_0 (σ_0 0 15)
            have t29 : σ_0 10 (σ_0 0 15) = σ 10 (σ_0 0 15) := hFσ_0 _ _ (by omega)
            refine zr_goto (pc := 58) hV 62 dX12_next_58 (by decide) ?_
            show V 62 [some (ZR 0)] [ZI (σ_0 10 (σ_0 0 15))] 41 σ_0
            have t30 := zx_g15 hσ_0
            have t31 := zx_g15 hσ_0
            exact zr_iret (pc := 62) hV dX12_next_62 rfl rfl ⟨_, rfl, (by omega), hσ_0, hFσ_0, (by omega), (show (σ_0 0 15 < σ 0 14 → (σ_0 10 (σ_0 0 15)) = σ 10 (σ_0 0 15) ∧ (σ_0 10 (σ_0 0 15)) ≠ 32) ∧ (σ 0 15 < σ 0 14 ∧ σ 10 (σ 0 15) ≠ 32 → σ_0 0 15 = σ 0 15) from (by omega))⟩
        · show V 25 [some (ZR 0)] [] 41 σ_0
          have zc : σ_0 0 15 = σ 0 15 → σ 10 (σ_0 0 15) = σ 10 (σ 0 15) := fun h => by rw [h]
          refine zr_aload_n (pc := 25) hV dX12_next_25 rfl rfl ?_
          refine zr_dup (pc := 26) hV dX12_next_26 (fun _ => rfl) ?_
          refine zr_getI (pc := 27) hV 15 dX12_next_27 fX12_200 rfl rfl rfl (by decide) ?_
          have t32 := zx_g15 hσ_0
          refine zr_iconst (pc := 30) hV 1 dX12_next_30 rfl ?_
          refine zr_iadd (pc := 31) hV dX12_next_31 ?_
          refine zr_putI (pc := 32) hV 15 dX12_next_32 fX12_200 rfl rfl rfl rfl (by decide) (fun σ32 eσ32 => ?_)
          have hσ32 : zx_T σ32 := zx_u15 eσ32 hσ_0 (by omega)
          have hFσ32 : ∀ a i : Int, (¬ (a = 0 ∧ i = 15)) → σ32 a i = σ a i := fun a i h => by rw [eσ32, zq_up_ne h]; exact hFσ_0 a i h
          refine zr_goto (pc := 35) hV 0 dX12_next_35 (by decide) ?_
          have t33 := zx_g15 hσ32
          have t34 : σ32 0 15 = (σ_0 0 15) + 1 := by rw [eσ32]; exact zq_up_same _ _ _ _
          have t35 := zx_g15 hσ32
          have t36 : σ32 0 15 = (σ_0 0 15) + 1 := by rw [eσ32]; exact zq_up_same _ _ _ _
          have t37 := zx_g15 hσ32
          have t38 : σ32 0 15 = (σ_0 0 15) + 1 := by rw [eσ32]; exact zq_up_same _ _ _ _
          exact ih0 σ32 hσ32 hFσ32 (by omega) (by omega) (by omega)
  have t39 := zx_g15 hσ
  have t40 := zx_g15 hσ
  have t41 := zx_g15 hσ
  exact L0 (80 - σ 0 15 + 1 : Int).toNat σ hσ (fun a i _ => rfl) (by omega) (by omega) (by omega)
set_option maxHeartbeats 800000 in
theorem c_X12_takes {σ : zq_S} (hσ : zx_T σ) (c : Int) (q0 : 0 ≤ c ∧ c ≤ 127) : zq_C zx_w yX12_takes cX12_takes 3 (some .boolean) 1 20 41 41 [ZR 0, ZI c] σ (zq_pi (fun r τ => zx_T τ ∧ (∀ a i : Int, (¬ (a = 0 ∧ i = 15)) → τ a i = σ a i) ∧ ((r = 0 ∨ r = 1) ∧ σ 0 15 ≤ τ 0 15 ∧ (r = 1 → σ 0 15 < τ 0 15)))) := by
  refine zq_C_of (by decide) (Nat.le_refl _) (Nat.le_of_ble_eq_true rfl) [some (ZR 0), some (ZI c), none] rfl (fun V hV => ?_)
  have z14 := zx_g14 hσ
  show V 0 [some (ZR 0), some (ZI c), none] [] 41 σ
  refine zr_aload_n (pc := 0) hV dX12_takes_0 rfl rfl ?_
  refine zr_callVi (pc := 1) hV [] (st := []) (c_X12_next (σ := σ) hσ ) dX12_takes_1 mX12_203 rfl (by decide) (by decide) (Nat.le_of_ble_eq_true rfl) (Nat.le_refl _) (fun r1 σ1 hr1 pσ1 => ?_)
  obtain ⟨hσ1, hfσ1, pσ1, wσ1⟩ := pσ1
  have hFσ1 : ∀ a i : Int, (¬ (a = 0 ∧ i = 15)) → σ1 a i = σ a i := fun a i h => (hfσ1 a i h)
  have t1 := zx_g14 hσ
  have t2 := zx_g15 hσ
  have t3 := zx_g15 hσ1
  refine zr_iload_n (pc := 4) hV dX12_takes_4 rfl rfl ?_
  refine zr_icmp_ne (pc := 5) hV 12 dX12_takes_5 (by decide) (by omega) (by omega) (fun c4 => ?_) (fun c4 => ?_)
  · show V 12 [some (ZR 0), some (ZI c), none] [] 41 σ1
    refine zr_iconst (pc := 12) hV 0 dX12_takes_12 rfl ?_
    show V 13 [some (ZR 0), some (ZI c), none] [ZI 0] 41 σ1
    refine zr_istore_n (pc := 13) hV [some (ZR 0), some (ZI c), some (ZI 0)] dX12_takes_13 rfl (by decide) rfl rfl ?_
    refine zr_aload_n (pc := 14) hV dX12_takes_14 rfl rfl ?_
    refine zr_dup (pc := 15) hV dX12_takes_15 (fun _ => rfl) ?_
    refine zr_getI (pc := 16) hV 15 dX12_takes_16 fX12_200 rfl rfl rfl (by decide) ?_
    have t5 := zx_g15 hσ1
    refine zr_iload_n (pc := 19) hV dX12_takes_19 rfl rfl ?_
    refine zr_if_eq (pc := 20) hV 27 dX12_takes_20 (by decide) ⟨by decide, by decide⟩ (fun c6 => ?_) (fun c6 => ?_)
    · show V 27 [some (ZR 0), some (ZI c), some (ZI 0)] [ZI (σ1 0 15), ZR 0] 41 σ1
      refine zr_iconst (pc := 27) hV 0 dX12_takes_27 rfl ?_
      show V 28 [some (ZR 0), some (ZI c), some (ZI 0)] [ZI 0, ZI (σ1 0 15), ZR 0] 41 σ1
      refine zr_iadd (pc := 28) hV dX12_takes_28 ?_
      refine zr_putI (pc := 29) hV 15 dX12_takes_29 fX12_200 rfl rfl rfl rfl (by decide) (fun σ29 eσ29 => ?_)
      have hσ29 : zx_T σ29 := zx_u15 eσ29 hσ1 (by omega)
      have hFσ29 : ∀ a i : Int, (¬ (a = 0 ∧ i = 15)) → σ29 a i = σ a i := fun a i h => by rw [eσ29, zq_up_ne h]; exact hFσ1 a i h
      refine zr_iload_n (pc := 32) hV dX12_takes_32 rfl rfl ?_
      have t7 := zx_g15 hσ29
      have t8 : σ29 0 15 = (σ1 0 15) + 0 := by rw [eσ29]; exact zq_up_same _ _ _ _
      exact zr_zret (pc := 33) hV dX12_takes_33 rfl rfl (by omega) ⟨_, rfl, ⟨by decide, by decide⟩, hσ29, hFσ29, (by omega)⟩
    · exfalso; omega
  · show V 8 [some (ZR 0), some (ZI c), none] [] 41 σ1
    refine zr_iconst (pc := 8) hV 1 dX12_takes_8 rfl ?_
    refine zr_goto (pc := 9) hV 13 dX12_takes_9 (by decide) ?_
    show V 13 [some (ZR 0), some (ZI c), none] [ZI 1] 41 σ1
    refine zr_istore_n (pc := 13) hV [some (ZR 0), some (ZI c), some (ZI 1)] dX12_takes_13 rfl (by decide) rfl rfl ?_
    refine zr_aload_n (pc := 14) hV dX12_takes_14 rfl rfl ?_
    refine zr_dup (pc := 15) hV dX12_takes_15 (fun _ => rfl) ?_
    refine zr_getI (pc := 16) hV 15 dX12_takes_16 fX12_200 rfl rfl rfl (by decide) ?_
    have t9 := zx_g15 hσ1
    refine zr_iload_n (pc := 19) hV dX12_takes_19 rfl rfl ?_
    refine zr_if_eq (pc := 20) hV 27 dX12_takes_20 (by decide) ⟨by decide, by decide⟩ (fun c10 => ?_) (fun c10 => ?_)
    · exfalso; omega
    · show V 23 [some (ZR 0), some (ZI c), some (ZI 1)] [ZI (σ1 0 15), ZR 0] 41 σ1
      refine zr_iconst (pc := 23) hV 1 dX12_takes_23 rfl ?_
      refine zr_goto (pc := 24) hV 28 dX12_takes_24 (by decide) ?_
      show V 28 [some (ZR 0), some (ZI c), some (ZI 1)] [ZI 1, ZI (σ1 0 15), ZR 0] 41 σ1
      refine zr_iadd (pc := 28) hV dX12_takes_28 ?_
      refine zr_putI (pc := 29) hV 15 dX12_takes_29 fX12_200 rfl rfl rfl rfl (by decide) (fun σ29 eσ29 => ?_)
      have hσ29 : zx_T σ29 := zx_u15 eσ29 hσ1 (by omega)
      have hFσ29 : ∀ a i : Int, (¬ (a = 0 ∧ i = 15)) → σ29 a i = σ a i := fun a i h => by rw [eσ29, zq_up_ne h]; exact hFσ1 a i h
      refine zr_iload_n (pc := 32) hV dX12_takes_32 rfl rfl ?_
      have t11 := zx_g15 hσ29
      have t12 : σ29 0 15 = (σ1 0 15) + 1 := by rw [eσ29]; exact zq_up_same _ _ _ _
      exact zr_zret (pc := 33) hV dX12_takes_33 rfl rfl (by omega) ⟨_, rfl, ⟨by decide, by decide⟩, hσ29, hFσ29, (by omega)⟩
set_option maxHeartbeats 800000 in
theorem c_X12_number {σ : zq_S} (hσ : zx_T σ) (high : Int) (q0 : 0 ≤ high ∧ high ≤ 4095) : zq_C zx_w yX12_number cX12_number 5 (some .int) 1 25 41 41 [ZR 0, ZI high] σ (zq_pi (fun r τ => zx_T τ ∧ (∀ a i : Int, (¬ (a = 0 ∧ i = 15)) → τ a i = σ a i) ∧ (-1 ≤ r ∧ r ≤ high ∧ σ 0 15 ≤ τ 0 15 ∧ (0 ≤ r → σ 0 15 < τ 0 15)))) := by
  refine zq_C_of (by decide) (Nat.le_refl _) (Nat.le_of_ble_eq_true rfl) [some (ZR 0), some (ZI high), none, none, none] rfl (fun V hV => ?_)
  have z14 := zx_g14 hσ
  show V 0 [some (ZR 0), some (ZI high), none, none, none] [] 41 σ
  refine zr_aload_n (pc := 0) hV dX12_number_0 rfl rfl ?_
  refine zr_callVi (pc := 1) hV [] (st := []) (c_X12_next (σ := σ) hσ ) dX12_number_1 mX12_203 rfl (by decide) (by decide) (Nat.le_of_ble_eq_true rfl) (Nat.le_refl _) (fun r1 σ1 hr1 pσ1 => ?_)
  obtain ⟨hσ1, hfσ1, pσ1, wσ1⟩ := pσ1
  have hFσ1 : ∀ a i : Int, (¬ (a = 0 ∧ i = 15)) → σ1 a i = σ a i := fun a i h => (hfσ1 a i h)
  have t1 := zx_g14 hσ
  have t2 := zx_g15 hσ
  have t3 := zx_g15 hσ1
  refine zr_istore_n (pc := 4) hV [some (ZR 0), some (ZI high), some (ZI r1), none, none] dX12_number_4 rfl (by decide) rfl rfl ?_
  refine zr_aload_n (pc := 5) hV dX12_number_5 rfl rfl ?_
  refine zr_getI (pc := 6) hV 15 dX12_number_6 fX12_200 rfl rfl rfl (by decide) ?_
  have t4 := zx_g15 hσ1
  refine zr_istore_n (pc := 9) hV [some (ZR 0), some (ZI high), some (ZI r1), some (ZI (σ1 0 15)), none] dX12_number_9 rfl (by decide) rfl rfl ?_
  refine zr_iconst (pc := 10) hV 0 dX12_number_10 rfl ?_
  refine zr_istore (pc := 11) hV [some (ZR 0), some (ZI high), some (ZI r1), some (ZI (σ1 0 15)), some (ZI 0)] dX12_number_11 (by decide) rfl rfl ?_
  have L13 : ∀ (fuel : Nat) (x4_13 : Int) (σ_13 : zq_S), (0 ≤ x4_13 ∧ x4_13 ≤ 40959) → (zx_T σ_13) → (∀ a i : Int, (¬ (a = 0 ∧ i = 15)) → σ_13 a i = σ a i) → (σ 0 15 ≤ (σ1 0 15)) → ((σ1 0 15) ≤ σ_13 0 15) → 80 - σ_13 0 15 < (fuel : Int) → V 13 [some (ZR 0), some (ZI high), some (ZI r1), some (ZI (σ1 0 15)), some (ZI x4_13)] [] 41 σ_13 := by
    intro fuel
    induction fuel with
    | zero =>
      intro x4_13 σ_13 hx4_13 hσ_13 hFσ_13 hi13_0 hi13_1 hm13
      have t5 := zx_g15 hσ_13
      exfalso; omega
    | succ fuel ih =>
      intro x4_13 σ_13 hx4_13 hσ_13 hFσ_13 hi13_0 hi13_1 hm13
      have ih13 := ih
      show V 13 [some (ZR 0), some (ZI high), some (ZI r1), some (ZI (σ1 0 15)), some (ZI x4_13)] [] 41 σ_13
      refine zr_aload_n (pc := 13) hV dX12_number_13 rfl rfl ?_
      refine zr_getI (pc := 14) hV 15 dX12_number_14 fX12_200 rfl rfl rfl (by decide) ?_
      have t6 := zx_g15 hσ_13
      refine zr_aload_n (pc := 17) hV dX12_number_17 rfl rfl ?_
      refine zr_getI (pc := 18) hV 14 dX12_number_18 fX12_197 rfl rfl rfl (by decide) ?_
      have t7 := zx_g14 hσ_13
      have t8 : σ_13 0 14 = σ 0 14 := hFσ_13 _ _ (by omega)
      have J90 : V 90 [some (ZR 0), some (ZI high), some (ZI r1), some (ZI (σ1 0 15)), some (ZI x4_13)] [] 41 σ_13 := by
        show V 90 [some (ZR 0), some (ZI high), some (ZI r1), some (ZI (σ1 0 15)), some (ZI x4_13)] [] 41 σ_13
        refine zr_iload_n (pc := 90) hV dX12_number_90 rfl rfl ?_
        refine zr_if_lt (pc := 91) hV 108 dX12_number_91 (by decide) (by omega) (fun c9 => ?_) (fun c9 => ?_)
        · show V 108 [some (ZR 0), some (ZI high), some (ZI r1), some (ZI (σ1 0 15)), some (ZI x4_13)] [] 41 σ_13
          refine zr_aload_n (pc := 108) hV dX12_number_108 rfl rfl ?_
          refine zr_iload_n (pc := 109) hV dX12_number_109 rfl rfl ?_
          refine zr_putI (pc := 110) hV 15 dX12_number_110 fX12_200 rfl rfl rfl rfl (by decide) (fun σ110 eσ110 => ?_)
          have hσ110 : zx_T σ110 := zx_u15 eσ110 hσ_13 (by omega)
          have hFσ110 : ∀ a i : Int, (¬ (a = 0 ∧ i = 15)) → σ110 a i = σ a i := fun a i h => by rw [eσ110, zq_up_ne h]; exact hFσ_13 a i h
          refine zr_iconst (pc := 113) hV (-1) dX12_number_113 rfl ?_
          have t10 := zx_g15 hσ110
          have t11 : σ110 0 15 = σ1 0 15 := by rw [eσ110]; exact zq_up_same _ _ _ _
          exact zr_iret (pc := 114) hV dX12_number_114 rfl rfl ⟨_, rfl, ⟨by decide, by decide⟩, hσ110, hFσ110, (by omega)⟩
        · show V 94 [some (ZR 0), some (ZI high), some (ZI r1), some (ZI (σ1 0 15)), some (ZI x4_13)] [] 41 σ_13
          refine zr_aload_n (pc := 94) hV dX12_number_94 rfl rfl ?_
          refine zr_getI (pc := 95) hV 15 dX12_number_95 fX12_200 rfl rfl rfl (by decide) ?_
          have t12 := zx_g15 hσ_13
          refine zr_iload_n (pc := 98) hV dX12_number_98 rfl rfl ?_
          refine zr_icmp_eq (pc := 99) hV 108 dX12_number_99 (by decide) (by omega) (by omega) (fun c13 => ?_) (fun c13 => ?_)
          · show V 108 [some (ZR 0), some (ZI high), some (ZI r1), some (ZI (σ1 0 15)), some (ZI x4_13)] [] 41 σ_13
            refine zr_aload_n (pc := 108) hV dX12_number_108 rfl rfl ?_
            refine zr_iload_n (pc := 109) hV dX12_number_109 rfl rfl ?_
            refine zr_putI (pc := 110) hV 15 dX12_number_110 fX12_200 rfl rfl rfl rfl (by decide) (fun σ110 eσ110 => ?_)
            have hσ110 : zx_T σ110 := zx_u15 eσ110 hσ_13 (by omega)
            have hFσ110 : ∀ a i : Int, (¬ (a = 0 ∧ i = 15)) → σ110 a i = σ a i := fun a i h => by rw [eσ110, zq_up_ne h]; exact hFσ_13 a i h
            refine zr_iconst (pc := 113) hV (-1) dX12_number_113 rfl ?_
            have t14 := zx_g15 hσ110
            have t15 : σ110 0 15 = σ1 0 15 := by rw [eσ110]; exact zq_up_same _ _ _ _
            exact zr_iret (pc := 114) hV dX12_number_114 rfl rfl ⟨_, rfl, ⟨by decide, by decide⟩, hσ110, hFσ110, (by omega)⟩
          · show V 102 [some (ZR 0), some (ZI high), some (ZI r1), some (ZI (σ1 0 15)), some (ZI x4_13)] [] 41 σ_13
            refine zr_iload (pc := 102) hV dX12_number_102 rfl ?_
            refine zr_iload_n (pc := 104) hV dX12_number_104 rfl rfl ?_
            refine zr_icmp_le (pc := 105) hV 115 dX12_number_105 (by decide) (by omega) (by omega) (fun c16 => ?_) (fun c16 => ?_)
            · show V 115 [some (ZR 0), some (ZI high), some (ZI r1), some (ZI (σ1 0 15)), some (ZI x4_13)] [] 41 σ_13
              refine zr_iload (pc := 115) hV dX12_number_115 rfl ?_
              have t17 := zx_g15 hσ_13
              exact zr_iret (pc := 117) hV dX12_number_117 rfl rfl ⟨_, rfl, (by omega), hσ_13, hFσ_13, (by omega)⟩
            · show V 108 [some (ZR 0), some (ZI high), some (ZI r1), some (ZI (σ1 0 15)), some (ZI x4_13)] [] 41 σ_13
              refine zr_aload_n (pc := 108) hV dX12_number_108 rfl rfl ?_
              refine zr_iload_n (pc := 109) hV dX12_number_109 rfl rfl ?_
              refine zr_putI (pc := 110) hV 15 dX12_number_110 fX12_200 rfl rfl rfl rfl (by decide) (fun σ110 eσ110 => ?_)
              have hσ110 : zx_T σ110 := zx_u15 eσ110 hσ_13 (by omega)
              have hFσ110 : ∀ a i : Int, (¬ (a = 0 ∧ i = 15)) → σ110 a i = σ a i := fun a i h => by rw [eσ110, zq_up_ne h]; exact hFσ_13 a i h
              refine zr_iconst (pc := 113) hV (-1) dX12_number_113 rfl ?_
              have t18 := zx_g15 hσ110
              have t19 : σ110 0 15 = σ1 0 15 := by rw [eσ110]; exact zq_up_same _ _ _ _
              exact zr_iret (pc := 114) hV dX12_number_114 rfl rfl ⟨_, rfl, ⟨by decide, by decide⟩, hσ110, hFσ110, (by omega)⟩
      refine zr_icmp_ge (pc := 21) hV 90 dX12_number_21 (by decide) (by omega) (by omega) (fun c20 => ?_) (fun c20 => ?_)
      · exact J90
      · show V 24 [some (ZR 0), some (ZI high), some (ZI r1), some (ZI (σ1 0 15)), some (ZI x4_13)] [] 41 σ_13
        refine zr_aload_n (pc := 24) hV dX12_number_24 rfl rfl ?_
        refine zr_getR (pc := 25) hV 13 10 dX12_number_25 fX12_47 rfl rfl rfl (by decide) (zx_g13 hσ_13) (by omega) ?_
        refine zr_aload_n (pc := 28) hV dX12_number_28 rfl rfl ?_
        refine zr_getI (pc := 29) hV 15 dX12_number_29 fX12_200 rfl rfl rfl (by decide) ?_
        have t21 := zx_g15 hσ_13
        refine zr_iald (pc := 32) hV dX12_number_32 rfl (by decide) rfl (by omega) ?_
        have t22 := zx_ga10 hσ_13 (σ_13 0 15)
        have t23 : σ_13 10 (σ_13 0 15) = σ 10 (σ_13 0 15) := hFσ_13 _ _ (by omega)
        refine zr_i2l (pc := 33) hV dX12_number_33 (by omega) ?_
        refine zr_ldc2 (pc := 34) (v := 48) hV 48 dX12_number_34 kX12_207 (by decide) ?_
        refine zr_ldc2 (pc := 37) (v := 57) hV 57 dX12_number_37 kX12_209 (by decide) ?_
        refine zr_callSp (pc := 40) hV [ZL (σ_13 10 (σ_13 0 15)), ZL 48, ZL 57] (st := []) (c_X12_in (σ := σ_13) (σ_13 10 (σ_13 0 15)) 48 57 (by omega) (by omega) (by omega)) dX12_number_40 mX12_170 (by decide) (Nat.le_of_ble_eq_true rfl) (Nat.le_refl _) (fun r40 hr40 pr40 => ?_)
        refine zr_if_eq (pc := 43) hV 90 dX12_number_43 (by decide) (by omega) (fun c24 => ?_) (fun c24 => ?_)
        · exact J90
        · show V 46 [some (ZR 0), some (ZI high), some (ZI r1), some (ZI (σ1 0 15)), some (ZI x4_13)] [] 41 σ_13
          refine zr_iload (pc := 46) hV dX12_number_46 rfl ?_
          refine zr_iload_n (pc := 48) hV dX12_number_48 rfl rfl ?_
          refine zr_icmp_le (pc := 49) hV 57 dX12_number_49 (by decide) (by omega) (by omega) (fun c25 => ?_) (fun c25 => ?_)
          · show V 57 [some (ZR 0), some (ZI high), some (ZI r1), some (ZI (σ1 0 15)), some (ZI x4_13)] [] 41 σ_13
            refine zr_bipush (pc := 57) hV 10 dX12_number_57 (by decide) ?_
            refine zr_iload (pc := 59) hV dX12_number_59 rfl ?_
            refine zr_imul (pc := 61) hV dX12_number_61 ?_
            refine zr_aload_n (pc := 62) hV dX12_number_62 rfl rfl ?_
            refine zr_getR (pc := 63) hV 13 10 dX12_number_63 fX12_47 rfl rfl rfl (by decide) (zx_g13 hσ_13) (by omega) ?_
            refine zr_aload_n (pc := 66) hV dX12_number_66 rfl rfl ?_
            refine zr_getI (pc := 67) hV 15 dX12_number_67 fX12_200 rfl rfl rfl (by decide) ?_
            have t26 := zx_g15 hσ_13
            refine zr_iald (pc := 70) hV dX12_number_70 rfl (by decide) rfl (by omega) ?_
            have t27 := zx_ga10 hσ_13 (σ_13 0 15)
            have t28 : σ_13 10 (σ_13 0 15) = σ 10 (σ_13 0 15) := hFσ_13 _ _ (by omega)
            refine zr_iadd (pc := 71) hV dX12_number_71 ?_
            refine zr_bipush (pc := 72) hV 48 dX12_number_72 (by decide) ?_
            refine zr_isub (pc := 74) hV dX12_number_74 ?_
            show V 75 [some (ZR 0), some (ZI high), some (ZI r1), some (ZI (σ1 0 15)), some (ZI x4_13)] [ZI (((10 * x4_13) + (σ_13 10 (σ_13 0 15))) - 48)] 41 σ_13
            refine zr_istore (pc := 75) hV [some (ZR 0), some (ZI high), some (ZI r1), some (ZI (σ1 0 15)), some (ZI (((10 * x4_13) + (σ_13 10 (σ_13 0 15))) - 48))] dX12_number_75 (by decide) rfl rfl ?_
            refine zr_aload_n (pc := 77) hV dX12_number_77 rfl rfl ?_
            refine zr_dup (pc := 78) hV dX12_number_78 (fun _ => rfl) ?_
            refine zr_getI (pc := 79) hV 15 dX12_number_79 fX12_200 rfl rfl rfl (by decide) ?_
            have t29 := zx_g15 hσ_13
            refine zr_iconst (pc := 82) hV 1 dX12_number_82 rfl ?_
            refine zr_iadd (pc := 83) hV dX12_number_83 ?_
            refine zr_putI (pc := 84) hV 15 dX12_number_84 fX12_200 rfl rfl rfl rfl (by decide) (fun σ84 eσ84 => ?_)
            have hσ84 : zx_T σ84 := zx_u15 eσ84 hσ_13 (by omega)
            have hFσ84 : ∀ a i : Int, (¬ (a = 0 ∧ i = 15)) → σ84 a i = σ a i := fun a i h => by rw [eσ84, zq_up_ne h]; exact hFσ_13 a i h
            refine zr_goto (pc := 87) hV 13 dX12_number_87 (by decide) ?_
            have t30 := zx_g15 hσ84
            have t31 : σ84 0 15 = (σ_13 0 15) + 1 := by rw [eσ84]; exact zq_up_same _ _ _ _
            have t32 := zx_g15 hσ84
            have t33 : σ84 0 15 = (σ_13 0 15) + 1 := by rw [eσ84]; exact zq_up_same _ _ _ _
            exact ih13 (((10 * x4_13) + (σ_13 10 (σ_13 0 15))) - 48) σ84 (by omega) hσ84 hFσ84 (by omega) (by omega) (by omega)
          · show V 52 [some (ZR 0), some (ZI high), some (ZI r1), some (ZI (σ1 0 15)), some (ZI x4_13)] [] 41 σ_13
            refine zr_iload (pc := 52) hV dX12_number_52 rfl ?_
            refine zr_goto (pc := 54) hV 75 dX12_number_54 (by decide) ?_
            show V 75 [some (ZR 0), some (ZI high), some (ZI r1), some (ZI (σ1 0 15)), some (ZI x4_13)] [ZI x4_13] 41 σ_13
            refine zr_istore (pc := 75) hV [some (ZR 0), some (ZI high), some (ZI r1), some (ZI (σ1 0 15)), some (ZI x4_13)] dX12_number_75 (by decide) rfl rfl ?_
            refine zr_aload_n (pc := 77) hV dX12_number_77 rfl rfl ?_
            refine zr_dup (pc := 78) hV dX12_number_78 (fun _ => rfl) ?_
            refine zr_getI (pc := 79) hV 15 dX12_number_79 fX12_200 rfl rfl rfl (by decide) ?_
            have t34 := zx_g15 hσ_13
            refine zr_iconst (pc := 82) hV 1 dX12_number_82 rfl ?_
            refine zr_iadd (pc := 83) hV dX12_number_83 ?_
            refine zr_putI (pc := 84) hV 15 dX12_number_84 fX12_200 rfl rfl rfl rfl (by decide) (fun σ84 eσ84 => ?_)
            have hσ84 : zx_T σ84 := zx_u15 eσ84 hσ_13 (by omega)
            have hFσ84 : ∀ a i : Int, (¬ (a = 0 ∧ i = 15)) → σ84 a i = σ a i := fun a i h => by rw [eσ84, zq_up_ne h]; exact hFσ_13 a i h
            refine zr_goto (pc := 87) hV 13 dX12_number_87 (by decide) ?_
            have t35 := zx_g15 hσ84
            have t36 : σ84 0 15 = (σ_13 0 15) + 1 := by rw [eσ84]; exact zq_up_same _ _ _ _
            have t37 := zx_g15 hσ84
            have t38 : σ84 0 15 = (σ_13 0 15) + 1 := by rw [eσ84]; exact zq_up_same _ _ _ _
            exact ih13 x4_13 σ84 (by omega) hσ84 hFσ84 (by omega) (by omega) (by omega)
  have t39 := zx_g15 hσ1
  have t40 := zx_g15 hσ1
  exact L13 (80 - σ1 0 15 + 1 : Int).toNat 0 σ1 (by omega) hσ1 hFσ1 (by omega) (by omega) (by omega)
set_option maxHeartbeats 800000 in
theorem c_X12_readName {σ : zq_S} (hσ : zx_T σ)  : zq_C zx_w yX12_readName cX12_readName 3 (some .int) 1 25 41 41 [ZR 0] σ (zq_pi (fun r τ => zx_T τ ∧ (∀ a i : Int, (¬ (a = 0 ∧ i = 15) ∧ ¬ (a = 0 ∧ i = 16)) → τ a i = σ a i) ∧ (True))) := by
  refine zq_C_of (by decide) (Nat.le_refl _) (Nat.le_of_ble_eq_true rfl) [some (ZR 0), none, none] rfl (fun V hV => ?_)
  have z14 := zx_g14 hσ
  show V 0 [some (ZR 0), none, none] [] 41 σ
  refine zr_aload_n (pc := 0) hV dX12_readName_0 rfl rfl ?_
  refine zr_callVi (pc := 1) hV [] (st := []) (c_X12_next (σ := σ) hσ ) dX12_readName_1 mX12_203 rfl (by decide) (by decide) (Nat.le_of_ble_eq_true rfl) (Nat.le_refl _) (fun r1 σ1 hr1 pσ1 => ?_)
  obtain ⟨hσ1, hfσ1, pσ1, wσ1⟩ := pσ1
  have hFσ1 : ∀ a i : Int, (¬ (a = 0 ∧ i = 15) ∧ ¬ (a = 0 ∧ i = 16)) → σ1 a i = σ a i := fun a i h => (hfσ1 a i h.1)
  have t1 := zx_g14 hσ
  have t2 := zx_g15 hσ
  have t3 := zx_g15 hσ1
  refine zr_istore_n (pc := 4) hV [some (ZR 0), some (ZI r1), none] dX12_readName_4 rfl (by decide) rfl rfl ?_
  refine zr_aload_n (pc := 5) hV dX12_readName_5 rfl rfl ?_
  refine zr_aload_n (pc := 6) hV dX12_readName_6 rfl rfl ?_
  refine zr_getI (pc := 7) hV 15 dX12_readName_7 fX12_200 rfl rfl rfl (by decide) ?_
  have t4 := zx_g15 hσ1
  refine zr_putI (pc := 10) hV 16 dX12_readName_10 fX12_211 rfl rfl rfl rfl (by decide) (fun σ10 eσ10 => ?_)
  have hσ10 : zx_T σ10 := zx_u16 eσ10 hσ1 (by omega)
  have hFσ10 : ∀ a i : Int, (¬ (a = 0 ∧ i = 15) ∧ ¬ (a = 0 ∧ i = 16)) → σ10 a i = σ a i := fun a i h => by rw [eσ10, zq_up_ne h.2]; exact hFσ1 a i h
  refine zr_iconst (pc := 13) hV 0 dX12_readName_13 rfl ?_
  refine zr_istore_n (pc := 14) hV [some (ZR 0), some (ZI r1), some (ZI 0)] dX12_readName_14 rfl (by decide) rfl rfl ?_
  have L15 : ∀ (fuel : Nat) (x1_15 : Int) (x2_15 : Int) (σ_15 : zq_S), ((-2147483648) ≤ x1_15 ∧ x1_15 ≤ 2147483647) → ((-2147483648) ≤ x2_15 ∧ x2_15 ≤ 2147483647) → (zx_T σ_15) → (∀ a i : Int, (¬ (a = 0 ∧ i = 15) ∧ ¬ (a = 0 ∧ i = 16)) → σ_15 a i = σ a i) → (0 ≤ x1_15 → σ_15 0 15 < σ 0 14) → 80 - σ_15 0 15 < (fuel : Int) → V 15 [some (ZR 0), some (ZI x1_15), some (ZI x2_15)] [] 41 σ_15 := by
    intro fuel
    induction fuel with
    | zero =>
      intro x1_15 x2_15 σ_15 hx1_15 hx2_15 hσ_15 hFσ_15 hi15_0 hm15
      have t5 := zx_g15 hσ_15
      exfalso; omega
    | succ fuel ih =>
      intro x1_15 x2_15 σ_15 hx1_15 hx2_15 hσ_15 hFσ_15 hi15_0 hm15
      have ih15 := ih
      show V 15 [some (ZR 0), some (ZI x1_15), some (ZI x2_15)] [] 41 σ_15
      refine zr_iload_n (pc := 15) hV dX12_readName_15 rfl rfl ?_
      refine zr_i2l (pc := 16) hV dX12_readName_16 (by omega) ?_
      refine zr_ldc2 (pc := 17) (v := 97) hV 97 dX12_readName_17 kX12_214 (by decide) ?_
      refine zr_ldc2 (pc := 20) (v := 122) hV 122 dX12_readName_20 kX12_216 (by decide) ?_
      refine zr_callSp (pc := 23) hV [ZL x1_15, ZL 97, ZL 122] (st := []) (c_X12_in (σ := σ_15) x1_15 97 122 (by omega) (by omega) (by omega)) dX12_readName_23 mX12_170 (by decide) (Nat.le_of_ble_eq_true rfl) (Nat.le_refl _) (fun r23 hr23 pr23 => ?_)
      refine zr_if_eq (pc := 26) hV 92 dX12_readName_26 (by decide) (by omega) (fun c6 => ?_) (fun c6 => ?_)
      · show V 92 [some (ZR 0), some (ZI x1_15), some (ZI x2_15)] [] 41 σ_15
        refine zr_iload_n (pc := 92) hV dX12_readName_92 rfl rfl ?_
        exact zr_iret (pc := 93) hV dX12_readName_93 rfl rfl ⟨_, rfl, (by omega), hσ_15, hFσ_15, trivial⟩
      · show V 29 [some (ZR 0), some (ZI x1_15), some (ZI x2_15)] [] 41 σ_15
        refine zr_aload_n (pc := 29) hV dX12_readName_29 rfl rfl ?_
        refine zr_getI (pc := 30) hV 15 dX12_readName_30 fX12_200 rfl rfl rfl (by decide) ?_
        have t7 := zx_g15 hσ_15
        refine zr_aload_n (pc := 33) hV dX12_readName_33 rfl rfl ?_
        refine zr_getI (pc := 34) hV 16 dX12_readName_34 fX12_211 rfl rfl rfl (by decide) ?_
        have t8 := zx_g16 hσ_15
        refine zr_iconst (pc := 37) hV 3 dX12_readName_37 rfl ?_
        refine zr_iadd (pc := 38) hV dX12_readName_38 ?_
        refine zr_icmp_ge (pc := 39) hV 92 dX12_readName_39 (by decide) (by omega) (by omega) (fun c9 => ?_) (fun c9 => ?_)
        · show V 92 [some (ZR 0), some (ZI x1_15), some (ZI x2_15)] [] 41 σ_15
          refine zr_iload_n (pc := 92) hV dX12_readName_92 rfl rfl ?_
          exact zr_iret (pc := 93) hV dX12_readName_93 rfl rfl ⟨_, rfl, (by omega), hσ_15, hFσ_15, trivial⟩
        · show V 42 [some (ZR 0), some (ZI x1_15), some (ZI x2_15)] [] 41 σ_15
          refine zr_bipush (pc := 42) hV 27 dX12_readName_42 (by decide) ?_
          refine zr_iload_n (pc := 44) hV dX12_readName_44 rfl rfl ?_
          refine zr_imul (pc := 45) hV dX12_readName_45 ?_
          refine zr_any (pc := 46) hV (fun y46 hy46 _ => ?_)
          refine zr_iload_n (pc := 46) hV dX12_readName_46 rfl rfl ?_
          refine zr_iadd (pc := 47) hV dX12_readName_47 ?_
          refine zr_any (pc := 48) hV (fun y48 hy48 _ => ?_)
          refine zr_bipush (pc := 48) hV 97 dX12_readName_48 (by decide) ?_
          refine zr_isub (pc := 50) hV dX12_readName_50 ?_
          refine zr_any (pc := 51) hV (fun y51 hy51 _ => ?_)
          refine zr_iconst (pc := 51) hV 1 dX12_readName_51 rfl ?_
          refine zr_iadd (pc := 52) hV dX12_readName_52 ?_
          refine zr_any (pc := 53) hV (fun y53 hy53 _ => ?_)
          refine zr_istore_n (pc := 53) hV [some (ZR 0), some (ZI x1_15), some (ZI y53)] dX12_readName_53 rfl (by decide) rfl rfl ?_
          refine zr_aload_n (pc := 54) hV dX12_readName_54 rfl rfl ?_
          refine zr_dup (pc := 55) hV dX12_readName_55 (fun _ => rfl) ?_
          refine zr_getI (pc := 56) hV 15 dX12_readName_56 fX12_200 rfl rfl rfl (by decide) ?_
          have t10 := zx_g15 hσ_15
          refine zr_iconst (pc := 59) hV 1 dX12_readName_59 rfl ?_
          refine zr_iadd (pc := 60) hV dX12_readName_60 ?_
          refine zr_putI (pc := 61) hV 15 dX12_readName_61 fX12_200 rfl rfl rfl rfl (by decide) (fun σ61 eσ61 => ?_)
          have hσ61 : zx_T σ61 := zx_u15 eσ61 hσ_15 (by omega)
          have hFσ61 : ∀ a i : Int, (¬ (a = 0 ∧ i = 15) ∧ ¬ (a = 0 ∧ i = 16)) → σ61 a i = σ a i := fun a i h => by rw [eσ61, zq_up_ne h.1]; exact hFσ_15 a i h
          refine zr_aload_n (pc := 64) hV dX12_readName_64 rfl rfl ?_
          refine zr_getI (pc := 65) hV 15 dX12_readName_65 fX12_200 rfl rfl rfl (by decide) ?_
          have t11 := zx_g15 hσ61
          have t12 : σ61 0 15 = (σ_15 0 15) + 1 := by rw [eσ61]; exact zq_up_same _ _ _ _
          refine zr_aload_n (pc := 68) hV dX12_readName_68 rfl rfl ?_
          refine zr_getI (pc := 69) hV 14 dX12_readName_69 fX12_197 rfl rfl rfl (by decide) ?_
          have t13 := zx_g14 hσ61
          have t14 : σ61 0 14 = σ_15 0 14 := by rw [eσ61]; exact zq_up_ne (by omega)
          have t15 : σ_15 0 14 = σ 0 14 := hFσ_15 _ _ (by omega)
          refine zr_icmp_ge (pc := 72) hV 87 dX12_readName_72 (by decide) (by omega) (by omega) (fun c16 => ?_) (fun c16 => ?_)
          · show V 87 [some (ZR 0), some (ZI x1_15), some (ZI y53)] [] 41 σ61
            refine zr_iconst (pc := 87) hV (-1) dX12_readName_87 rfl ?_
            show V 88 [some (ZR 0), some (ZI x1_15), some (ZI y53)] [ZI (-1)] 41 σ61
            refine zr_istore_n (pc := 88) hV [some (ZR 0), some (ZI (-1)), some (ZI y53)] dX12_readName_88 rfl (by decide) rfl rfl ?_
            refine zr_goto (pc := 89) hV 15 dX12_readName_89 (by decide) ?_
            have t17 := zx_g15 hσ61
            have t18 : σ61 0 15 = (σ_15 0 15) + 1 := by rw [eσ61]; exact zq_up_same _ _ _ _
            have t19 := zx_g15 hσ61
            have t20 : σ61 0 15 = (σ_15 0 15) + 1 := by rw [eσ61]; exact zq_up_same _ _ _ _
            exact ih15 (-1) y53 σ61 (by omega) (by omega) hσ61 hFσ61 (by omega) (by omega)
          · show V 75 [some (ZR 0), some (ZI x1_15), some (ZI y53)] [] 41 σ61
            refine zr_aload_n (pc := 75) hV dX12_readName_75 rfl rfl ?_
            refine zr_getR (pc := 76) hV 13 10 dX12_readName_76 fX12_47 rfl rfl rfl (by decide) (zx_g13 hσ61) (by omega) ?_
            refine zr_aload_n (pc := 79) hV dX12_readName_79 rfl rfl ?_
            refine zr_getI (pc := 80) hV 15 dX12_readName_80 fX12_200 rfl rfl rfl (by decide) ?_
            have t21 := zx_g15 hσ61
            have t22 : σ61 0 15 = (σ_15 0 15) + 1 := by rw [eσ61]; exact zq_up_same _ _ _ _
            refine zr_iald (pc := 83) hV dX12_readName_83 rfl (by decide) rfl (by omega) ?_
            have t23 := zx_ga10 hσ61 (σ61 0 15)
            have t24 : σ61 10 (σ61 0 15) = σ_15 10 (σ61 0 15) := by rw [eσ61]; exact zq_up_ne (by omega)
            have t25 : σ_15 10 (σ61 0 15) = σ 10 (σ61 0 15) := hFσ_15 _ _ (by omega)
            refine zr_goto (pc := 84) hV 88 dX12_readName_84 (by decide) ?_
            show V 88 [some (ZR 0), some (ZI x1_15), some (ZI y53)] [ZI (σ61 10 (σ61 0 15))] 41 σ61
            refine zr_istore_n (pc := 88) hV [some (ZR 0), some (ZI (σ61 10 (σ61 0 15))), some (ZI y53)] dX12_readName_88 rfl (by decide) rfl rfl ?_
            refine zr_goto (pc := 89) hV 15 dX12_readName_89 (by decide) ?_
            have t26 := zx_g15 hσ61
            have t27 : σ61 0 15 = (σ_15 0 15) + 1 := by rw [eσ61]; exact zq_up_same _ _ _ _
            have t28 := zx_g15 hσ61
            have t29 : σ61 0 15 = (σ_15 0 15) + 1 := by rw [eσ61]; exact zq_up_same _ _ _ _
            exact ih15 (σ61 10 (σ61 0 15)) y53 σ61 (by omega) (by omega) hσ61 hFσ61 (by omega) (by omega)
  have t30 := zx_g15 hσ10
  have t31 : σ10 0 15 = σ1 0 15 := by rw [eσ10]; exact zq_up_ne (by omega)
  have t32 := zx_g15 hσ10
  have t33 : σ10 0 15 = σ1 0 15 := by rw [eσ10]; exact zq_up_ne (by omega)
  exact L15 (80 - σ10 0 15 + 1 : Int).toNat r1 0 σ10 (by omega) (by omega) hσ10 hFσ10 (by omega) (by omega)
set_option maxHeartbeats 800000 in
theorem c_X12_named {σ : zq_S} (hσ : zx_T σ) (name : Int) (q0 : zq_in name) : zq_C zx_w yX12_named cX12_named 3 (some .int) 0 0 41 41 [ZR 0, ZI name] σ (zq_pp σ (fun r => -4 ≤ r ∧ r < 20 ∧ (0 ≤ r → r < σ 0 3))) := by
  refine zq_C_of (by decide) (Nat.le_refl _) (Nat.le_of_ble_eq_true rfl) [some (ZR 0), some (ZI name), none] rfl (fun V hV => ?_)
  show V 0 [some (ZR 0), some (ZI name), none] [] 41 σ
  refine zr_iconst (pc := 0) hV 0 dX12_named_0 rfl ?_
  refine zr_istore_n (pc := 1) hV [some (ZR 0), some (ZI name), some (ZI 0)] dX12_named_1 rfl (by decide) rfl rfl ?_
  have L2 : ∀ (fuel : Nat) (x2_2 : Int), (0 ≤ x2_2 ∧ x2_2 ≤ 20) → 20 - x2_2 < (fuel : Int) → V 2 [some (ZR 0), some (ZI name), some (ZI x2_2)] [] 41 σ := by
    intro fuel
    induction fuel with
    | zero =>
      intro x2_2 hx2_2 hm2
      exfalso; omega
    | succ fuel ih =>
      intro x2_2 hx2_2 hm2
      have ih2 := ih
      show V 2 [some (ZR 0), some (ZI name), some (ZI x2_2)] [] 41 σ
      refine zr_iload_n (pc := 2) hV dX12_named_2 rfl rfl ?_
      refine zr_aload_n (pc := 3) hV dX12_named_3 rfl rfl ?_
      refine zr_getI (pc := 4) hV 3 dX12_named_4 fX12_150 rfl rfl rfl (by decide) ?_
      have t1 := zx_g3 hσ
      refine zr_icmp_ge (pc := 7) hV 28 dX12_named_7 (by decide) (by omega) (by omega) (fun c2 => ?_) (fun c2 => ?_)
      · show V 28 [some (ZR 0), some (ZI name), some (ZI x2_2)] [] 41 σ
        refine zr_bipush (pc := 28) hV (-4) dX12_named_28 (by decide) ?_
        exact zr_iret (pc := 30) hV dX12_named_30 rfl rfl ⟨rfl, _, rfl, ⟨by decide, by decide⟩, (by omega)⟩
      · show V 10 [some (ZR 0), some (ZI name), some (ZI x2_2)] [] 41 σ
        refine zr_aload_n (pc := 10) hV dX12_named_10 rfl rfl ?_
        refine zr_getR (pc := 11) hV 4 1 dX12_named_11 fX12_19 rfl rfl rfl (by decide) (zx_g4 hσ) (by omega) ?_
        refine zr_iload_n (pc := 14) hV dX12_named_14 rfl rfl ?_
        refine zr_iald (pc := 15) hV dX12_named_15 rfl (by decide) rfl (by omega) ?_
        have t3 := zx_ga1 hσ x2_2
        refine zr_iload_n (pc := 16) hV dX12_named_16 rfl rfl ?_
        refine zr_icmp_ne (pc := 17) hV 22 dX12_named_17 (by decide) (by omega) (by omega) (fun c4 => ?_) (fun c4 => ?_)
        · show V 22 [some (ZR 0), some (ZI name), some (ZI x2_2)] [] 41 σ
          refine zr_iinc (pc := 22) hV [some (ZR 0), some (ZI name), some (ZI (x2_2 + 1))] (x2_2 + 1) dX12_named_22 rfl rfl (by decide) rfl rfl ?_
          refine zr_goto (pc := 25) hV 2 dX12_named_25 (by decide) ?_
          exact ih2 (x2_2 + 1) (by omega) (by omega)
        · show V 20 [some (ZR 0), some (ZI name), some (ZI x2_2)] [] 41 σ
          refine zr_iload_n (pc := 20) hV dX12_named_20 rfl rfl ?_
          exact zr_iret (pc := 21) hV dX12_named_21 rfl rfl ⟨rfl, _, rfl, (by omega), (by omega)⟩
  exact L2 (20 - (0 : Int) + 1 : Int).toNat 0 (by omega) (by omega)
set_option maxHeartbeats 800000 in
theorem c_X12_signOf {σ : zq_S} (c : Int) (q0 : zq_in c) : zq_C zx_w yX12_signOf cX12_signOf 1 (some .int) 0 0 41 41 [ZI c] σ (zq_pp σ (fun r => 0 ≤ r ∧ r ≤ 6 ∧ (1 ≤ r → 0 ≤ c))) := by
  refine zq_C_of (by decide) (Nat.le_refl _) (Nat.le_of_ble_eq_true rfl) [some (ZI c)] rfl (fun V hV => ?_)
  show V 0 [some (ZI c)] [] 41 σ
  refine zr_iload_n (pc := 0) hV dX12_signOf_0 rfl rfl ?_
  refine zr_bipush (pc := 1) hV 43 dX12_signOf_1 (by decide) ?_
  refine zr_icmp_ne (pc := 3) hV 10 dX12_signOf_3 (by decide) (by omega) ⟨by decide, by decide⟩ (fun c1 => ?_) (fun c1 => ?_)
  · show V 10 [some (ZI c)] [] 41 σ
    refine zr_iload_n (pc := 10) hV dX12_signOf_10 rfl rfl ?_
    refine zr_bipush (pc := 11) hV 45 dX12_signOf_11 (by decide) ?_
    refine zr_icmp_ne (pc := 13) hV 20 dX12_signOf_13 (by decide) (by omega) ⟨by decide, by decide⟩ (fun c2 => ?_) (fun c2 => ?_)
    · show V 20 [some (ZI c)] [] 41 σ
      refine zr_iload_n (pc := 20) hV dX12_signOf_20 rfl rfl ?_
      refine zr_bipush (pc := 21) hV 38 dX12_signOf_21 (by decide) ?_
      refine zr_icmp_ne (pc := 23) hV 30 dX12_signOf_23 (by decide) (by omega) ⟨by decide, by decide⟩ (fun c3 => ?_) (fun c3 => ?_)
      · show V 30 [some (ZI c)] [] 41 σ
        refine zr_iload_n (pc := 30) hV dX12_signOf_30 rfl rfl ?_
        refine zr_bipush (pc := 31) hV 124 dX12_signOf_31 (by decide) ?_
        refine zr_icmp_ne (pc := 33) hV 40 dX12_signOf_33 (by decide) (by omega) ⟨by decide, by decide⟩ (fun c4 => ?_) (fun c4 => ?_)
        · show V 40 [some (ZI c)] [] 41 σ
          refine zr_iload_n (pc := 40) hV dX12_signOf_40 rfl rfl ?_
          refine zr_bipush (pc := 41) hV 94 dX12_signOf_41 (by decide) ?_
          refine zr_icmp_ne (pc := 43) hV 50 dX12_signOf_43 (by decide) (by omega) ⟨by decide, by decide⟩ (fun c5 => ?_) (fun c5 => ?_)
          · show V 50 [some (ZI c)] [] 41 σ
            refine zr_iload_n (pc := 50) hV dX12_signOf_50 rfl rfl ?_
            refine zr_bipush (pc := 51) hV 60 dX12_signOf_51 (by decide) ?_
            refine zr_icmp_ne (pc := 53) hV 61 dX12_signOf_53 (by decide) (by omega) ⟨by decide, by decide⟩ (fun c6 => ?_) (fun c6 => ?_)
            · show V 61 [some (ZI c)] [] 41 σ
              refine zr_iconst (pc := 61) hV 0 dX12_signOf_61 rfl ?_
              show V 62 [some (ZI c)] [ZI 0] 41 σ
              exact zr_iret (pc := 62) hV dX12_signOf_62 rfl rfl ⟨rfl, _, rfl, ⟨by decide, by decide⟩, (by omega)⟩
            · show V 56 [some (ZI c)] [] 41 σ
              refine zr_bipush (pc := 56) hV 6 dX12_signOf_56 (by decide) ?_
              refine zr_goto (pc := 58) hV 62 dX12_signOf_58 (by decide) ?_
              show V 62 [some (ZI c)] [ZI 6] 41 σ
              exact zr_iret (pc := 62) hV dX12_signOf_62 rfl rfl ⟨rfl, _, rfl, ⟨by decide, by decide⟩, (by omega)⟩
          · show V 46 [some (ZI c)] [] 41 σ
            refine zr_iconst (pc := 46) hV 5 dX12_signOf_46 rfl ?_
            refine zr_goto (pc := 47) hV 62 dX12_signOf_47 (by decide) ?_
            show V 62 [some (ZI c)] [ZI 5] 41 σ
            exact zr_iret (pc := 62) hV dX12_signOf_62 rfl rfl ⟨rfl, _, rfl, ⟨by decide, by decide⟩, (by omega)⟩
        · show V 36 [some (ZI c)] [] 41 σ
          refine zr_iconst (pc := 36) hV 4 dX12_signOf_36 rfl ?_
          refine zr_goto (pc := 37) hV 62 dX12_signOf_37 (by decide) ?_
          show V 62 [some (ZI c)] [ZI 4] 41 σ
          exact zr_iret (pc := 62) hV dX12_signOf_62 rfl rfl ⟨rfl, _, rfl, ⟨by decide, by decide⟩, (by omega)⟩
      · show V 26 [some (ZI c)] [] 41 σ
        refine zr_iconst (pc := 26) hV 3 dX12_signOf_26 rfl ?_
        refine zr_goto (pc := 27) hV 62 dX12_signOf_27 (by decide) ?_
        show V 62 [some (ZI c)] [ZI 3] 41 σ
        exact zr_iret (pc := 62) hV dX12_signOf_62 rfl rfl ⟨rfl, _, rfl, ⟨by decide, by decide⟩, (by omega)⟩
    · show V 16 [some (ZI c)] [] 41 σ
      refine zr_iconst (pc := 16) hV 2 dX12_signOf_16 rfl ?_
      refine zr_goto (pc := 17) hV 62 dX12_signOf_17 (by decide) ?_
      show V 62 [some (ZI c)] [ZI 2] 41 σ
      exact zr_iret (pc := 62) hV dX12_signOf_62 rfl rfl ⟨rfl, _, rfl, ⟨by decide, by decide⟩, (by omega)⟩
  · show V 6 [some (ZI c)] [] 41 σ
    refine zr_iconst (pc := 6) hV 1 dX12_signOf_6 rfl ?_
    refine zr_goto (pc := 7) hV 62 dX12_signOf_7 (by decide) ?_
    show V 62 [some (ZI c)] [ZI 1] 41 σ
    exact zr_iret (pc := 62) hV dX12_signOf_62 rfl rfl ⟨rfl, _, rfl, ⟨by decide, by decide⟩, (by omega)⟩
