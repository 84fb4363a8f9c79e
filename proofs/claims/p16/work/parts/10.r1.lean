set_option maxHeartbeats 800000 in
theorem c_X12_in {σ : zq_S} (v low high : Int) (q0 : zq_inL v) (q1 : zq_inL low) (q2 : zq_inL high) : zq_C zx_w yX12_in cX12_in 6 (some .boolean) 0 0 41 41 [ZL v, ZL low, ZL high] σ (zq_pp σ (fun r => (r = 0 ∨ r = 1) ∧ (r = 1 ↔ low ≤ v ∧ v ≤ high))) := by
  refine zq_C_of (by decide) (Nat.le_refl _) (Nat.le_of_ble_eq_true rfl) [some (ZL v), none, some (ZL low), none, some (ZL high), none] rfl (fun V hV => ?_)
  show V 0 [some (ZL v), none, some (ZL low), none, some (ZL high), none] [] 41 σ
  refine zr_lload_n (pc := 0) hV dX12_in_0 rfl rfl ?_
  refine zr_lload_n (pc := 1) hV dX12_in_1 rfl rfl ?_
  refine zr_lcmp (pc := 2) hV dX12_in_2 (by omega) (by omega) ?_
  have t1 := zq_cmp_b v low
  refine zr_if_lt (pc := 3) hV 17 dX12_in_3 (by decide) (by omega) (fun c2 => ?_) (fun c2 => ?_)
  · show V 17 [some (ZL v), none, some (ZL low), none, some (ZL high), none] [] 41 σ
    refine zr_iconst (pc := 17) hV 0 dX12_in_17 rfl ?_
    show V 18 [some (ZL v), none, some (ZL low), none, some (ZL high), none] [ZI 0] 41 σ
    exact zr_zret (pc := 18) hV dX12_in_18 rfl rfl (by omega) ⟨rfl, _, rfl, ⟨by decide, by decide⟩, (by omega)⟩
  · show V 6 [some (ZL v), none, some (ZL low), none, some (ZL high), none] [] 41 σ
    refine zr_lload_n (pc := 6) hV dX12_in_6 rfl rfl ?_
    refine zr_lload (pc := 7) hV dX12_in_7 rfl ?_
    refine zr_lcmp (pc := 9) hV dX12_in_9 (by omega) (by omega) ?_
    have t3 := zq_cmp_b v high
    refine zr_if_gt (pc := 10) hV 17 dX12_in_10 (by decide) (by omega) (fun c4 => ?_) (fun c4 => ?_)
    · show V 17 [some (ZL v), none, some (ZL low), none, some (ZL high), none] [] 41 σ
      refine zr_iconst (pc := 17) hV 0 dX12_in_17 rfl ?_
      show V 18 [some (ZL v), none, some (ZL low), none, some (ZL high), none] [ZI 0] 41 σ
      exact zr_zret (pc := 18) hV dX12_in_18 rfl rfl (by omega) ⟨rfl, _, rfl, ⟨by decide, by decide⟩, (by omega)⟩
    · show V 13 [some (ZL v), none, some (ZL low), none, some (ZL high), none] [] 41 σ
      refine zr_iconst (pc := 13) hV 1 dX12_in_13 rfl ?_
      refine zr_goto (pc := 14) hV 18 dX12_in_14 (by decide) ?_
      show V 18 [some (ZL v), none, some (ZL low), none, some (ZL high), none] [ZI 1] 41 σ
      exact zr_zret (pc := 18) hV dX12_in_18 rfl rfl (by omega) ⟨rfl, _, rfl, ⟨by decide, by decide⟩, (by omega)⟩
set_option maxHeartbeats 800000 in
theorem c_X12_mask {σ : zq_S} (hσ : zx_T σ)  : zq_C zx_w yX12_mask cX12_mask 1 (some .int) 0 0 41 41 [ZR 0] σ (zq_pp σ (fun r => 0 ≤ r ∧ r ≤ 255)) := by
  refine zq_C_of (by decide) (Nat.le_refl _) (Nat.le_of_ble_eq_true rfl) [some (ZR 0)] rfl (fun V hV => ?_)
  show V 0 [some (ZR 0)] [] 41 σ
  refine zr_iconst (pc := 0) hV 1 dX12_mask_0 rfl ?_
  refine zr_aload_n (pc := 1) hV dX12_mask_1 rfl rfl ?_
  refine zr_getI (pc := 2) hV 0 dX12_mask_2 fX12_7 rfl rfl rfl (by decide) ?_
  have t1 := zx_g0 hσ
  refine zr_ishl (pc := 5) hV dX12_mask_5 ?_
  have t2 := zx_shl_one (y := σ 0 0) 8 256 (by decide) (by decide) (by omega)
  refine zr_iconst (pc := 6) hV 1 dX12_mask_6 rfl ?_
  refine zr_isub (pc := 7) hV dX12_mask_7 ?_
  exact zr_iret (pc := 8) hV dX12_mask_8 rfl rfl ⟨rfl, _, rfl, (by omega), (by omega)⟩
set_option maxHeartbeats 800000 in
theorem c_X12_isBits {σ : zq_S} (hσ : zx_T σ) (bits : Int) (q0 : zq_in bits) : zq_C zx_w yX12_isBits cX12_isBits 2 (some .boolean) 1 25 41 41 [ZR 0, ZI bits] σ (zq_pp σ (fun r => (r = 0 ∨ r = 1) ∧ (r = 1 → 0 ≤ bits ∧ bits < zx_p2 (σ 0 2) ∧ bits ≤ 4095))) := by
  refine zq_C_of (by decide) (Nat.le_refl _) (Nat.le_of_ble_eq_true rfl) [some (ZR 0), some (ZI bits)] rfl (fun V hV => ?_)
  show V 0 [some (ZR 0), some (ZI bits)] [] 41 σ
  refine zr_iload_n (pc := 0) hV dX12_isBits_0 rfl rfl ?_
  refine zr_i2l (pc := 1) hV dX12_isBits_1 (by omega) ?_
  refine zr_lconst (pc := 2) hV 0 dX12_isBits_2 (by decide) ?_
  refine zr_iconst (pc := 3) hV 1 dX12_isBits_3 rfl ?_
  refine zr_aload_n (pc := 4) hV dX12_isBits_4 rfl rfl ?_
  refine zr_getI (pc := 5) hV 2 dX12_isBits_5 fX12_16 rfl rfl rfl (by decide) ?_
  have t1 := zx_g2 hσ
  refine zr_ishl (pc := 8) hV dX12_isBits_8 ?_
  have t2 := zx_shl_one (y := σ 0 2) 12 4096 (by decide) (by decide) (by omega)
  refine zr_iconst (pc := 9) hV 1 dX12_isBits_9 rfl ?_
  refine zr_isub (pc := 10) hV dX12_isBits_10 ?_
  refine zr_i2l (pc := 11) hV dX12_isBits_11 (by omega) ?_
  refine zr_callSp (pc := 12) hV [ZL bits, ZL 0, ZL ((zq_shl 1 (σ 0 2)) - 1)] (st := []) (c_X12_in (σ := σ) bits 0 ((zq_shl 1 (σ 0 2)) - 1) (by omega) (by omega) (by omega)) dX12_isBits_12 mX12_170 (by decide) (Nat.le_of_ble_eq_true rfl) (Nat.le_refl _) (fun r12 hr12 pr12 => ?_)
  exact zr_zret (pc := 15) hV dX12_isBits_15 rfl rfl (by omega) ⟨rfl, _, rfl, (by omega), (by omega)⟩
set_option maxHeartbeats 800000 in
theorem c_X12_fieldBits {σ : zq_S} (hσ : zx_T σ) (order field : Int) (q0 : 0 ≤ order ∧ order ≤ 20) (q1 : 0 ≤ field ∧ field ≤ 3) : zq_C zx_w yX12_fieldBits cX12_fieldBits 5 (some .int) 0 0 41 41 [ZR 0, ZI order, ZI field] σ (zq_pp σ (fun r => 0 ≤ r ∧ r ≤ 12 ∧ r = zx_cnt σ order field (σ 0 2))) := by
  refine zq_C_of (by decide) (Nat.le_refl _) (Nat.le_of_ble_eq_true rfl) [some (ZR 0), some (ZI order), some (ZI field), none, none] rfl (fun V hV => ?_)
  have z0 := zx_cnt_0 σ order field
  have z00 := zx_g2 hσ
  show V 0 [some (ZR 0), some (ZI order), some (ZI field), none, none] [] 41 σ
  refine zr_iconst (pc := 0) hV 0 dX12_fieldBits_0 rfl ?_
  refine zr_istore_n (pc := 1) hV [some (ZR 0), some (ZI order), some (ZI field), some (ZI 0), none] dX12_fieldBits_1 rfl (by decide) rfl rfl ?_
  refine zr_iconst (pc := 2) hV 0 dX12_fieldBits_2 rfl ?_
  refine zr_istore (pc := 3) hV [some (ZR 0), some (ZI order), some (ZI field), some (ZI 0), some (ZI 0)] dX12_fieldBits_3 (by decide) rfl rfl ?_
  have L5 : ∀ (fuel : Nat) (x3_5 : Int) (x4_5 : Int), (0 ≤ x3_5 ∧ x3_5 ≤ 12) → (0 ≤ x4_5 ∧ x4_5 ≤ 12) → (x3_5 = zx_cnt σ order field x4_5) → (x4_5 ≤ σ 0 2) → 12 - x4_5 < (fuel : Int) → V 5 [some (ZR 0), some (ZI order), some (ZI field), some (ZI x3_5), some (ZI x4_5)] [] 41 σ := by
    intro fuel
    induction fuel with
    | zero =>
      intro x3_5 x4_5 hx3_5 hx4_5 hi5_0 hi5_1 hm5
      exfalso; omega
    | succ fuel ih =>
      intro x3_5 x4_5 hx3_5 hx4_5 hi5_0 hi5_1 hm5
      have ih5 := ih
      have z1 := zx_cnt_s σ order field x4_5 (by omega)
      have z2 := zx_cnt_b σ order field x4_5 (by omega)
      have z3 := zx_cnt_b σ order field (x4_5 + 1) (by omega)
      show V 5 [some (ZR 0), some (ZI order), some (ZI field), some (ZI x3_5), some (ZI x4_5)] [] 41 σ
      refine zr_iload (pc := 5) hV dX12_fieldBits_5 rfl ?_
      refine zr_aload_n (pc := 7) hV dX12_fieldBits_7 rfl rfl ?_
      refine zr_getI (pc := 8) hV 2 dX12_fieldBits_8 fX12_16 rfl rfl rfl (by decide) ?_
      have t1 := zx_g2 hσ
      refine zr_icmp_ge (pc := 11) hV 46 dX12_fieldBits_11 (by decide) (by omega) (by omega) (fun c2 => ?_) (fun c2 => ?_)
      · show V 46 [some (ZR 0), some (ZI order), some (ZI field), some (ZI x3_5), some (ZI x4_5)] [] 41 σ
        refine zr_iload_n (pc := 46) hV dX12_fieldBits_46 rfl rfl ?_
        exact zr_iret (pc := 47) hV dX12_fieldBits_47 rfl rfl ⟨rfl, _, rfl, (by omega), ⟨by omega, by omega, by rw [show σ 0 2 = x4_5 by omega]; exact hi5_0⟩⟩
      · show V 14 [some (ZR 0), some (ZI order), some (ZI field), some (ZI x3_5), some (ZI x4_5)] [] 41 σ
        refine zr_iload_n (pc := 14) hV dX12_fieldBits_14 rfl rfl ?_
        refine zr_aload_n (pc := 15) hV dX12_fieldBits_15 rfl rfl ?_
        refine zr_getR (pc := 16) hV 5 2 dX12_fieldBits_16 fX12_23 rfl rfl rfl (by decide) (zx_g5 hσ) (by omega) ?_
        refine zr_bipush (pc := 19) hV 12 dX12_fieldBits_19 (by decide) ?_
        refine zr_iload_n (pc := 21) hV dX12_fieldBits_21 rfl rfl ?_
        refine zr_imul (pc := 22) hV dX12_fieldBits_22 ?_
        refine zr_iload (pc := 23) hV dX12_fieldBits_23 rfl ?_
        refine zr_iadd (pc := 25) hV dX12_fieldBits_25 ?_
        refine zr_iald (pc := 26) hV dX12_fieldBits_26 rfl (by decide) rfl (by omega) ?_
        have t3 := zx_ga2 hσ ((12 * order) + x4_5)
        refine zr_iconst (pc := 27) hV 2 dX12_fieldBits_27 rfl ?_
        refine zr_iload_n (pc := 28) hV dX12_fieldBits_28 rfl rfl ?_
        refine zr_iadd (pc := 29) hV dX12_fieldBits_29 ?_
        refine zr_icmp_ne (pc := 30) hV 37 dX12_fieldBits_30 (by decide) (by omega) (by omega) (fun c4 => ?_) (fun c4 => ?_)
        · show V 37 [some (ZR 0), some (ZI order), some (ZI field), some (ZI x3_5), some (ZI x4_5)] [ZI x3_5] 41 σ
          refine zr_iconst (pc := 37) hV 0 dX12_fieldBits_37 rfl ?_
          show V 38 [some (ZR 0), some (ZI order), some (ZI field), some (ZI x3_5), some (ZI x4_5)] [ZI 0, ZI x3_5] 41 σ
          refine zr_iadd (pc := 38) hV dX12_fieldBits_38 ?_
          refine zr_istore_n (pc := 39) hV [some (ZR 0), some (ZI order), some (ZI field), some (ZI (x3_5 + 0)), some (ZI x4_5)] dX12_fieldBits_39 rfl (by decide) rfl rfl ?_
          refine zr_iinc (pc := 40) hV [some (ZR 0), some (ZI order), some (ZI field), some (ZI (x3_5 + 0)), some (ZI (x4_5 + 1))] (x4_5 + 1) dX12_fieldBits_40 rfl rfl (by decide) rfl rfl ?_
          refine zr_goto (pc := 43) hV 5 dX12_fieldBits_43 (by decide) ?_
          have t5 := zx_g2 hσ
          exact ih5 (x3_5 + 0) (x4_5 + 1) (by omega) (by omega) (by omega) (by omega) (by omega)
        · show V 33 [some (ZR 0), some (ZI order), some (ZI field), some (ZI x3_5), some (ZI x4_5)] [ZI x3_5] 41 σ
          refine zr_iconst (pc := 33) hV 1 dX12_fieldBits_33 rfl ?_
          refine zr_goto (pc := 34) hV 38 dX12_fieldBits_34 (by decide) ?_
          show V 38 [some (ZR 0), some (ZI order), some (ZI field), some (ZI x3_5), some (ZI x4_5)] [ZI 1, ZI x3_5] 41 σ
          refine zr_iadd (pc := 38) hV dX12_fieldBits_38 ?_
          refine zr_istore_n (pc := 39) hV [some (ZR 0), some (ZI order), some (ZI field), some (ZI (x3_5 + 1)), some (ZI x4_5)] dX12_fieldBits_39 rfl (by decide) rfl rfl ?_
          refine zr_iinc (pc := 40) hV [some (ZR 0), some (ZI order), some (ZI field), some (ZI (x3_5 + 1)), some (ZI (x4_5 + 1))] (x4_5 + 1) dX12_fieldBits_40 rfl rfl (by decide) rfl rfl ?_
          refine zr_goto (pc := 43) hV 5 dX12_fieldBits_43 (by decide) ?_
          have t6 := zx_g2 hσ
          exact ih5 (x3_5 + 1) (x4_5 + 1) (by omega) (by omega) (by omega) (by omega) (by omega)
  have t7 := zx_g2 hσ
  exact L5 (12 - (0 : Int) + 1 : Int).toNat 0 0 (by omega) (by omega) (by omega) (by omega) (by omega)
set_option maxHeartbeats 800000 in
theorem c_X12_leastBits {σ : zq_S} (hσ : zx_T σ) (order : Int) (q0 : 0 ≤ order ∧ order ≤ 20) : zq_C zx_w yX12_leastBits cX12_leastBits 4 (some .int) 0 0 41 41 [ZR 0, ZI order] σ (zq_pp σ (fun r => True)) := by
  refine zq_C_of (by decide) (Nat.le_refl _) (Nat.le_of_ble_eq_true rfl) [some (ZR 0), some (ZI order), none, none] rfl (fun V hV => ?_)
  show V 0 [some (ZR 0), some (ZI order), none, none] [] 41 σ
  refine zr_iconst (pc := 0) hV 0 dX12_leastBits_0 rfl ?_
  refine zr_istore_n (pc := 1) hV [some (ZR 0), some (ZI order), some (ZI 0), none] dX12_leastBits_1 rfl (by decide) rfl rfl ?_
  refine zr_iconst (pc := 2) hV 0 dX12_leastBits_2 rfl ?_
  refine zr_istore_n (pc := 3) hV [some (ZR 0), some (ZI order), some (ZI 0), some (ZI 0)] dX12_leastBits_3 rfl (by decide) rfl rfl ?_
  have L4 : ∀ (fuel : Nat) (x2_4 : Int) (x3_4 : Int), ((-2147483648) ≤ x2_4 ∧ x2_4 ≤ 2147483647) → (0 ≤ x3_4 ∧ x3_4 ≤ 12) → 12 - x3_4 < (fuel : Int) → V 4 [some (ZR 0), some (ZI order), some (ZI x2_4), some (ZI x3_4)] [] 41 σ := by
    intro fuel
    induction fuel with
    | zero =>
      intro x2_4 x3_4 hx2_4 hx3_4 hm4
      exfalso; omega
    | succ fuel ih =>
      intro x2_4 x3_4 hx2_4 hx3_4 hm4
      have ih4 := ih
      show V 4 [some (ZR 0), some (ZI order), some (ZI x2_4), some (ZI x3_4)] [] 41 σ
      refine zr_iload_n (pc := 4) hV dX12_leastBits_4 rfl rfl ?_
      refine zr_aload_n (pc := 5) hV dX12_leastBits_5 rfl rfl ?_
      refine zr_getI (pc := 6) hV 2 dX12_leastBits_6 fX12_16 rfl rfl rfl (by decide) ?_
      have t1 := zx_g2 hσ
      refine zr_icmp_ge (pc := 9) hV 43 dX12_leastBits_9 (by decide) (by omega) (by omega) (fun c2 => ?_) (fun c2 => ?_)
      · show V 43 [some (ZR 0), some (ZI order), some (ZI x2_4), some (ZI x3_4)] [] 41 σ
        refine zr_iload_n (pc := 43) hV dX12_leastBits_43 rfl rfl ?_
        exact zr_iret (pc := 44) hV dX12_leastBits_44 rfl rfl ⟨rfl, _, rfl, (by omega), trivial⟩
      · show V 12 [some (ZR 0), some (ZI order), some (ZI x2_4), some (ZI x3_4)] [] 41 σ
        refine zr_iconst (pc := 12) hV 2 dX12_leastBits_12 rfl ?_
        refine zr_iload_n (pc := 13) hV dX12_leastBits_13 rfl rfl ?_
        refine zr_imul (pc := 14) hV dX12_leastBits_14 ?_
        refine zr_any (pc := 15) hV (fun y15 hy15 _ => ?_)
        refine zr_aload_n (pc := 15) hV dX12_leastBits_15 rfl rfl ?_
        refine zr_getR (pc := 16) hV 5 2 dX12_leastBits_16 fX12_23 rfl rfl rfl (by decide) (zx_g5 hσ) (by omega) ?_
        refine zr_bipush (pc := 19) hV 12 dX12_leastBits_19 (by decide) ?_
        refine zr_iload_n (pc := 21) hV dX12_leastBits_21 rfl rfl ?_
        refine zr_imul (pc := 22) hV dX12_leastBits_22 ?_
        refine zr_iload_n (pc := 23) hV dX12_leastBits_23 rfl rfl ?_
        refine zr_iadd (pc := 24) hV dX12_leastBits_24 ?_
        refine zr_iald (pc := 25) hV dX12_leastBits_25 rfl (by decide) rfl (by omega) ?_
        have t3 := zx_ga2 hσ ((12 * order) + x3_4)
        refine zr_iconst (pc := 26) hV 1 dX12_leastBits_26 rfl ?_
        refine zr_icmp_ne (pc := 27) hV 34 dX12_leastBits_27 (by decide) (by omega) ⟨by decide, by decide⟩ (fun c4 => ?_) (fun c4 => ?_)
        · show V 34 [some (ZR 0), some (ZI order), some (ZI x2_4), some (ZI x3_4)] [ZI y15] 41 σ
          refine zr_iconst (pc := 34) hV 0 dX12_leastBits_34 rfl ?_
          show V 35 [some (ZR 0), some (ZI order), some (ZI x2_4), some (ZI x3_4)] [ZI 0, ZI y15] 41 σ
          refine zr_iadd (pc := 35) hV dX12_leastBits_35 ?_
          refine zr_istore_n (pc := 36) hV [some (ZR 0), some (ZI order), some (ZI (y15 + 0)), some (ZI x3_4)] dX12_leastBits_36 rfl (by decide) rfl rfl ?_
          refine zr_iinc (pc := 37) hV [some (ZR 0), some (ZI order), some (ZI (y15 + 0)), some (ZI (x3_4 + 1))] (x3_4 + 1) dX12_leastBits_37 rfl rfl (by decide) rfl rfl ?_
          refine zr_goto (pc := 40) hV 4 dX12_leastBits_40 (by decide) ?_
          exact ih4 (y15 + 0) (x3_4 + 1) (by omega) (by omega) (by omega)
        · show V 30 [some (ZR 0), some (ZI order), some (ZI x2_4), some (ZI x3_4)] [ZI y15] 41 σ
          refine zr_iconst (pc := 30) hV 1 dX12_leastBits_30 rfl ?_
          refine zr_goto (pc := 31) hV 35 dX12_leastBits_31 (by decide) ?_
          show V 35 [some (ZR 0), some (ZI order), some (ZI x2_4), some (ZI x3_4)] [ZI 1, ZI y15] 41 σ
          refine zr_iadd (pc := 35) hV dX12_leastBits_35 ?_
          refine zr_any (pc := 36) hV (fun y36 hy36 _ => ?_)
          refine zr_istore_n (pc := 36) hV [some (ZR 0), some (ZI order), some (ZI y36), some (ZI x3_4)] dX12_leastBits_36 rfl (by decide) rfl rfl ?_
          refine zr_iinc (pc := 37) hV [some (ZR 0), some (ZI order), some (ZI y36), some (ZI (x3_4 + 1))] (x3_4 + 1) dX12_leastBits_37 rfl rfl (by decide) rfl rfl ?_
          refine zr_goto (pc := 40) hV 4 dX12_leastBits_40 (by decide) ?_
          exact ih4 y36 (x3_4 + 1) (by omega) (by omega) (by omega)
  exact L4 (12 - (0 : Int) + 1 : Int).toNat 0 0 (by omega) (by omega) (by omega)
set_option maxHeartbeats 800000 in
theorem c_X12_isOrderOf {σ : zq_S} (hσ : zx_T σ) (order bits : Int) (q0 : 0 ≤ order ∧ order ≤ 20) (q1 : zq_in bits) : zq_C zx_w yX12_isOrderOf cX12_isOrderOf 6 (some .boolean) 0 0 41 41 [ZR 0, ZI order, ZI bits] σ (zq_pp σ (fun r => True)) := by
  refine zq_C_of (by decide) (Nat.le_refl _) (Nat.le_of_ble_eq_true rfl) [some (ZR 0), some (ZI order), some (ZI bits), none, none, none] rfl (fun V hV => ?_)
  show V 0 [some (ZR 0), some (ZI order), some (ZI bits), none, none, none] [] 41 σ
  refine zr_iconst (pc := 0) hV 1 dX12_isOrderOf_0 rfl ?_
  refine zr_istore_n (pc := 1) hV [some (ZR 0), some (ZI order), some (ZI bits), some (ZI 1), none, none] dX12_isOrderOf_1 rfl (by decide) rfl rfl ?_
  refine zr_iconst (pc := 2) hV 0 dX12_isOrderOf_2 rfl ?_
  refine zr_istore (pc := 3) hV [some (ZR 0), some (ZI order), some (ZI bits), some (ZI 1), some (ZI 0), none] dX12_isOrderOf_3 (by decide) rfl rfl ?_
  have L5 : ∀ (fuel : Nat) (x3_5 : Int) (x4_5 : Int), (0 ≤ x3_5 ∧ x3_5 ≤ 1) → (0 ≤ x4_5 ∧ x4_5 ≤ 12) → 12 - x4_5 < (fuel : Int) → V 5 [some (ZR 0), some (ZI order), some (ZI bits), some (ZI x3_5), some (ZI x4_5), none] [] 41 σ := by
    intro fuel
    induction fuel with
    | zero =>
      intro x3_5 x4_5 hx3_5 hx4_5 hm5
      exfalso; omega
    | succ fuel ih =>
      intro x3_5 x4_5 hx3_5 hx4_5 hm5
      have ih5 := ih
      show V 5 [some (ZR 0), some (ZI order), some (ZI bits), some (ZI x3_5), some (ZI x4_5), none] [] 41 σ
      refine zr_iload (pc := 5) hV dX12_isOrderOf_5 rfl ?_
      refine zr_aload_n (pc := 7) hV dX12_isOrderOf_7 rfl rfl ?_
      refine zr_getI (pc := 8) hV 2 dX12_isOrderOf_8 fX12_16 rfl rfl rfl (by decide) ?_
      have t1 := zx_g2 hσ
      refine zr_icmp_ge (pc := 11) hV 78 dX12_isOrderOf_11 (by decide) (by omega) (by omega) (fun c2 => ?_) (fun c2 => ?_)
      · show V 78 [some (ZR 0), some (ZI order), some (ZI bits), some (ZI x3_5), some (ZI x4_5), none] [] 41 σ
        refine zr_iload_n (pc := 78) hV dX12_isOrderOf_78 rfl rfl ?_
        exact zr_zret (pc := 79) hV dX12_isOrderOf_79 rfl rfl (by omega) ⟨rfl, _, rfl, (by omega), trivial⟩
      · show V 14 [some (ZR 0), some (ZI order), some (ZI bits), some (ZI x3_5), some (ZI x4_5), none] [] 41 σ
        refine zr_iload_n (pc := 14) hV dX12_isOrderOf_14 rfl rfl ?_
        refine zr_aload_n (pc := 15) hV dX12_isOrderOf_15 rfl rfl ?_
        refine zr_getI (pc := 16) hV 2 dX12_isOrderOf_16 fX12_16 rfl rfl rfl (by decide) ?_
        have t3 := zx_g2 hσ
        refine zr_iconst (pc := 19) hV 1 dX12_isOrderOf_19 rfl ?_
        refine zr_isub (pc := 20) hV dX12_isOrderOf_20 ?_
        refine zr_iload (pc := 21) hV dX12_isOrderOf_21 rfl ?_
        refine zr_isub (pc := 23) hV dX12_isOrderOf_23 ?_
        refine zr_ishr (pc := 24) hV dX12_isOrderOf_24 ?_
        have t4 := zq_shr_in bits (((σ 0 2) - 1) - x4_5)
        refine zr_iconst (pc := 25) hV 1 dX12_isOrderOf_25 rfl ?_
        refine zr_iand (pc := 26) hV dX12_isOrderOf_26 ?_
        have t5 := zq_and_mask (zq_shr bits (((σ 0 2) - 1) - x4_5)) 1 1 2 (by decide) (by decide) (by decide)
        refine zr_istore (pc := 27) hV [some (ZR 0), some (ZI order), some (ZI bits), some (ZI x3_5), some (ZI x4_5), some (ZI (zq_and (zq_shr bits (((σ 0 2) - 1) - x4_5)) 1))] dX12_isOrderOf_27 (by decide) rfl rfl ?_
        refine zr_iload_n (pc := 29) hV dX12_isOrderOf_29 rfl rfl ?_
        refine zr_if_eq (pc := 30) hV 70 dX12_isOrderOf_30 (by decide) (by omega) (fun c6 => ?_) (fun c6 => ?_)
        · show V 70 [some (ZR 0), some (ZI order), some (ZI bits), some (ZI x3_5), some (ZI x4_5), some (ZI (zq_and (zq_shr bits (((σ 0 2) - 1) - x4_5)) 1))] [] 41 σ
          refine zr_iconst (pc := 70) hV 0 dX12_isOrderOf_70 rfl ?_
          show V 71 [some (ZR 0), some (ZI order), some (ZI bits), some (ZI x3_5), some (ZI x4_5), some (ZI (zq_and (zq_shr bits (((σ 0 2) - 1) - x4_5)) 1))] [ZI 0] 41 σ
          refine zr_istore_n (pc := 71) hV [some (ZR 0), some (ZI order), some (ZI bits), some (ZI 0), some (ZI x4_5), some (ZI (zq_and (zq_shr bits (((σ 0 2) - 1) - x4_5)) 1))] dX12_isOrderOf_71 rfl (by decide) rfl rfl ?_
          refine zr_iinc (pc := 72) hV [some (ZR 0), some (ZI order), some (ZI bits), some (ZI 0), some (ZI (x4_5 + 1)), some (ZI (zq_and (zq_shr bits (((σ 0 2) - 1) - x4_5)) 1))] (x4_5 + 1) dX12_isOrderOf_72 rfl rfl (by decide) rfl rfl ?_
          refine zr_goto (pc := 75) hV 5 dX12_isOrderOf_75 (by decide) ?_
          refine zr_sub (pc := 5) hV [some (ZR 0), some (ZI order), some (ZI bits), some (ZI 0), some (ZI (x4_5 + 1)), none] (⟨rfl, rfl, rfl, rfl, rfl, trivial⟩) ?_
          exact ih5 0 (x4_5 + 1) (by omega) (by omega) (by omega)
        · show V 33 [some (ZR 0), some (ZI order), some (ZI bits), some (ZI x3_5), some (ZI x4_5), some (ZI (zq_and (zq_shr bits (((σ 0 2) - 1) - x4_5)) 1))] [] 41 σ
          refine zr_aload_n (pc := 33) hV dX12_isOrderOf_33 rfl rfl ?_
          refine zr_getR (pc := 34) hV 5 2 dX12_isOrderOf_34 fX12_23 rfl rfl rfl (by decide) (zx_g5 hσ) (by omega) ?_
          refine zr_bipush (pc := 37) hV 12 dX12_isOrderOf_37 (by decide) ?_
          refine zr_iload_n (pc := 39) hV dX12_isOrderOf_39 rfl rfl ?_
          refine zr_imul (pc := 40) hV dX12_isOrderOf_40 ?_
          refine zr_iload (pc := 41) hV dX12_isOrderOf_41 rfl ?_
          refine zr_iadd (pc := 43) hV dX12_isOrderOf_43 ?_
          refine zr_iald (pc := 44) hV dX12_isOrderOf_44 rfl (by decide) rfl (by omega) ?_
          have t7 := zx_ga2 hσ ((12 * order) + x4_5)
          refine zr_iconst (pc := 45) hV 1 dX12_isOrderOf_45 rfl ?_
          refine zr_icmp_gt (pc := 46) hV 66 dX12_isOrderOf_46 (by decide) (by omega) ⟨by decide, by decide⟩ (fun c8 => ?_) (fun c8 => ?_)
          · show V 66 [some (ZR 0), some (ZI order), some (ZI bits), some (ZI x3_5), some (ZI x4_5), some (ZI (zq_and (zq_shr bits (((σ 0 2) - 1) - x4_5)) 1))] [] 41 σ
            refine zr_iconst (pc := 66) hV 1 dX12_isOrderOf_66 rfl ?_
            refine zr_goto (pc := 67) hV 71 dX12_isOrderOf_67 (by decide) ?_
            show V 71 [some (ZR 0), some (ZI order), some (ZI bits), some (ZI x3_5), some (ZI x4_5), some (ZI (zq_and (zq_shr bits (((σ 0 2) - 1) - x4_5)) 1))] [ZI 1] 41 σ
            refine zr_istore_n (pc := 71) hV [some (ZR 0), some (ZI order), some (ZI bits), some (ZI 1), some (ZI x4_5), some (ZI (zq_and (zq_shr bits (((σ 0 2) - 1) - x4_5)) 1))] dX12_isOrderOf_71 rfl (by decide) rfl rfl ?_
            refine zr_iinc (pc := 72) hV [some (ZR 0), some (ZI order), some (ZI bits), some (ZI 1), some (ZI (x4_5 + 1)), some (ZI (zq_and (zq_shr bits (((σ 0 2) - 1) - x4_5)) 1))] (x4_5 + 1) dX12_isOrderOf_72 rfl rfl (by decide) rfl rfl ?_
            refine zr_goto (pc := 75) hV 5 dX12_isOrderOf_75 (by decide) ?_
            refine zr_sub (pc := 5) hV [some (ZR 0), some (ZI order), some (ZI bits), some (ZI 1), some (ZI (x4_5 + 1)), none] (⟨rfl, rfl, rfl, rfl, rfl, trivial⟩) ?_
            exact ih5 1 (x4_5 + 1) (by omega) (by omega) (by omega)
          · show V 49 [some (ZR 0), some (ZI order), some (ZI bits), some (ZI x3_5), some (ZI x4_5), some (ZI (zq_and (zq_shr bits (((σ 0 2) - 1) - x4_5)) 1))] [] 41 σ
            refine zr_aload_n (pc := 49) hV dX12_isOrderOf_49 rfl rfl ?_
            refine zr_getR (pc := 50) hV 5 2 dX12_isOrderOf_50 fX12_23 rfl rfl rfl (by decide) (zx_g5 hσ) (by omega) ?_
            refine zr_bipush (pc := 53) hV 12 dX12_isOrderOf_53 (by decide) ?_
            refine zr_iload_n (pc := 55) hV dX12_isOrderOf_55 rfl rfl ?_
            refine zr_imul (pc := 56) hV dX12_isOrderOf_56 ?_
            refine zr_iload (pc := 57) hV dX12_isOrderOf_57 rfl ?_
            refine zr_iadd (pc := 59) hV dX12_isOrderOf_59 ?_
            refine zr_iald (pc := 60) hV dX12_isOrderOf_60 rfl (by decide) rfl (by omega) ?_
            have t9 := zx_ga2 hσ ((12 * order) + x4_5)
            refine zr_iload (pc := 61) hV dX12_isOrderOf_61 rfl ?_
            refine zr_icmp_ne (pc := 63) hV 70 dX12_isOrderOf_63 (by decide) (by omega) (by omega) (fun c10 => ?_) (fun c10 => ?_)
            · show V 70 [some (ZR 0), some (ZI order), some (ZI bits), some (ZI x3_5), some (ZI x4_5), some (ZI (zq_and (zq_shr bits (((σ 0 2) - 1) - x4_5)) 1))] [] 41 σ
              refine zr_iconst (pc := 70) hV 0 dX12_isOrderOf_70 rfl ?_
              show V 71 [some (ZR 0), some (ZI order), some (ZI bits), some (ZI x3_5), some (ZI x4_5), some (ZI (zq_and (zq_shr bits (((σ 0 2) - 1) - x4_5)) 1))] [ZI 0] 41 σ
              refine zr_istore_n (pc := 71) hV [some (ZR 0), some (ZI order), some (ZI bits), some (ZI 0), some (ZI x4_5), some (ZI (zq_and (zq_shr bits (((σ 0 2) - 1) - x4_5)) 1))] dX12_isOrderOf_71 rfl (by decide) rfl rfl ?_
              refine zr_iinc (pc := 72) hV [some (ZR 0), some (ZI order), some (ZI bits), some (ZI 0), some (ZI (x4_5 + 1)), some (ZI (zq_and (zq_shr bits (((σ 0 2) - 1) - x4_5)) 1))] (x4_5 + 1) dX12_isOrderOf_72 rfl rfl (by decide) rfl rfl ?_
              refine zr_goto (pc := 75) hV 5 dX12_isOrderOf_75 (by decide) ?_
              refine zr_sub (pc := 5) hV [some (ZR 0), some (ZI order), some (ZI bits), some (ZI 0), some (ZI (x4_5 + 1)), none] (⟨rfl, rfl, rfl, rfl, rfl, trivial⟩) ?_
              exact ih5 0 (x4_5 + 1) (by omega) (by omega) (by omega)
            · show V 66 [some (ZR 0), some (ZI order), some (ZI bits), some (ZI x3_5), some (ZI x4_5), some (ZI (zq_and (zq_shr bits (((σ 0 2) - 1) - x4_5)) 1))] [] 41 σ
              refine zr_iconst (pc := 66) hV 1 dX12_isOrderOf_66 rfl ?_
              refine zr_goto (pc := 67) hV 71 dX12_isOrderOf_67 (by decide) ?_
              show V 71 [some (ZR 0), some (ZI order), some (ZI bits), some (ZI x3_5), some (ZI x4_5), some (ZI (zq_and (zq_shr bits (((σ 0 2) - 1) - x4_5)) 1))] [ZI 1] 41 σ
              refine zr_istore_n (pc := 71) hV [some (ZR 0), some (ZI order), some (ZI bits), some (ZI 1), some (ZI x4_5), some (ZI (zq_and (zq_shr bits (((σ 0 2) - 1) - x4_5)) 1))] dX12_isOrderOf_71 rfl (by decide) rfl rfl ?_
              refine zr_iinc (pc := 72) hV [some (ZR 0), some (ZI order), some (ZI bits), some (ZI 1), some (ZI (x4_5 + 1)), some (ZI (zq_and (zq_shr bits (((σ 0 2) - 1) - x4_5)) 1))] (x4_5 + 1) dX12_isOrderOf_72 rfl rfl (by decide) rfl rfl ?_
              refine zr_goto (pc := 75) hV 5 dX12_isOrderOf_75 (by decide) ?_
              refine zr_sub (pc := 5) hV [some (ZR 0), some (ZI order), some (ZI bits), some (ZI 1), some (ZI (x4_5 + 1)), none] (⟨rfl, rfl, rfl, rfl, rfl, trivial⟩) ?_
              exact ih5 1 (x4_5 + 1) (by omega) (by omega) (by omega)
  exact L5 (12 - (0 : Int) + 1 : Int).toNat 1 0 (by omega) (by omega) (by omega)
set_option maxHeartbeats 800000 in
theorem c_X12_orderOf {σ : zq_S} (hσ : zx_T σ) (bits : Int) (q0 : zq_in bits) : zq_C zx_w yX12_orderOf cX12_orderOf 3 (some .int) 1 25 41 41 [ZR 0, ZI bits] σ (zq_pp σ (fun r => -4 ≤ r ∧ r < 20 ∧ (0 ≤ r → r < σ 0 3))) := by
  refine zq_C_of (by decide) (Nat.le_refl _) (Nat.le_of_ble_eq_true rfl) [some (ZR 0), some (ZI bits), none] rfl (fun V hV => ?_)
  show V 0 [some (ZR 0), some (ZI bits), none] [] 41 σ
  refine zr_iconst (pc := 0) hV 0 dX12_orderOf_0 rfl ?_
  refine zr_istore_n (pc := 1) hV [some (ZR 0), some (ZI bits), some (ZI 0)] dX12_orderOf_1 rfl (by decide) rfl rfl ?_
  have L2 : ∀ (fuel : Nat) (x2_2 : Int), (0 ≤ x2_2 ∧ x2_2 ≤ 20) → 20 - x2_2 < (fuel : Int) → V 2 [some (ZR 0), some (ZI bits), some (ZI x2_2)] [] 41 σ := by
    intro fuel
    induction fuel with
    | zero =>
      intro x2_2 hx2_2 hm2
      exfalso; omega
    | succ fuel ih =>
      intro x2_2 hx2_2 hm2
      have ih2 := ih
      show V 2 [some (ZR 0), some (ZI bits), some (ZI x2_2)] [] 41 σ
      refine zr_iload_n (pc := 2) hV dX12_orderOf_2 rfl rfl ?_
      refine zr_aload_n (pc := 3) hV dX12_orderOf_3 rfl rfl ?_
      refine zr_getI (pc := 4) hV 3 dX12_orderOf_4 fX12_150 rfl rfl rfl (by decide) ?_
      have t1 := zx_g3 hσ
      refine zr_icmp_ge (pc := 7) hV 27 dX12_orderOf_7 (by decide) (by omega) (by omega) (fun c2 => ?_) (fun c2 => ?_)
      · show V 27 [some (ZR 0), some (ZI bits), some (ZI x2_2)] [] 41 σ
        refine zr_bipush (pc := 27) hV (-4) dX12_orderOf_27 (by decide) ?_
        exact zr_iret (pc := 29) hV dX12_orderOf_29 rfl rfl ⟨rfl, _, rfl, ⟨by decide, by decide⟩, (by omega)⟩
      · show V 10 [some (ZR 0), some (ZI bits), some (ZI x2_2)] [] 41 σ
        refine zr_aload_n (pc := 10) hV dX12_orderOf_10 rfl rfl ?_
        refine zr_iload_n (pc := 11) hV dX12_orderOf_11 rfl rfl ?_
        refine zr_iload_n (pc := 12) hV dX12_orderOf_12 rfl rfl ?_
        refine zr_callVp (pc := 13) hV [ZI x2_2, ZI bits] (st := []) (c_X12_isOrderOf (σ := σ) hσ x2_2 bits (by omega) (by omega)) dX12_orderOf_13 mX12_180 rfl (by decide) (by decide) (Nat.le_of_ble_eq_true rfl) (Nat.le_refl _) (fun r13 hr13 pr13 => ?_)
        refine zr_if_eq (pc := 16) hV 21 dX12_orderOf_16 (by decide) (by omega) (fun c3 => ?_) (fun c3 => ?_)
        · show V 21 [some (ZR 0), some (ZI bits), some (ZI x2_2)] [] 41 σ
          refine zr_iinc (pc := 21) hV [some (ZR 0), some (ZI bits), some (ZI (x2_2 + 1))] (x2_2 + 1) dX12_orderOf_21 rfl rfl (by decide) rfl rfl ?_
          refine zr_goto (pc := 24) hV 2 dX12_orderOf_24 (by decide) ?_
          exact ih2 (x2_2 + 1) (by omega) (by omega)
        · show V 19 [some (ZR 0), some (ZI bits), some (ZI x2_2)] [] 41 σ
          refine zr_iload_n (pc := 19) hV dX12_orderOf_19 rfl rfl ?_
          exact zr_iret (pc := 20) hV dX12_orderOf_20 rfl rfl ⟨rfl, _, rfl, (by omega), (by omega)⟩
  exact L2 (20 - (0 : Int) + 1 : Int).toNat 0 (by omega) (by omega)
set_option maxHeartbeats 800000 in
theorem c_X12_hasField {σ : zq_S} (hσ : zx_T σ) (order field : Int) (q0 : 0 ≤ order ∧ order ≤ 20) (q1 : 0 ≤ field ∧ field ≤ 3) : zq_C zx_w yX12_hasField cX12_hasField 3 (some .boolean) 1 24 41 41 [ZR 0, ZI order, ZI field] σ (zq_pp σ (fun r => (r = 0 ∨ r = 1) ∧ (r = 1 ↔ 0 < zx_cnt σ order field (σ 0 2)))) := by
  refine zq_C_of (by decide) (Nat.le_refl _) (Nat.le_of_ble_eq_true rfl) [some (ZR 0), some (ZI order), some (ZI field)] rfl (fun V hV => ?_)
  show V 0 [some (ZR 0), some (ZI order), some (ZI field)] [] 41 σ
  refine zr_aload_n (pc := 0) hV dX12_hasField_0 rfl rfl ?_
  refine zr_iload_n (pc := 1) hV dX12_hasField_1 rfl rfl ?_
  refine zr_iload_n (pc := 2) hV dX12_hasField_2 rfl rfl ?_
  refine zr_callVp (pc := 3) hV [ZI order, ZI field] (st := []) (c_X12_fieldBits (σ := σ) hσ order field (by omega) (by omega)) dX12_hasField_3 mX12_184 rfl (by decide) (by decide) (Nat.le_of_ble_eq_true rfl) (Nat.le_refl _) (fun r3 hr3 pr3 => ?_)
  have t1 := zx_g2 hσ
  refine zr_if_le (pc := 6) hV 13 dX12_hasField_6 (by decide) (by omega) (fun c2 => ?_) (fun c2 => ?_)
  · show V 13 [some (ZR 0), some (ZI order), some (ZI field)] [] 41 σ
    refine zr_iconst (pc := 13) hV 0 dX12_hasField_13 rfl ?_
    show V 14 [some (ZR 0), some (ZI order), some (ZI field)] [ZI 0] 41 σ
    exact zr_zret (pc := 14) hV dX12_hasField_14 rfl rfl (by omega) ⟨rfl, _, rfl, ⟨by decide, by decide⟩, (by omega)⟩
  · show V 9 [some (ZR 0), some (ZI order), some (ZI field)] [] 41 σ
    refine zr_iconst (pc := 9) hV 1 dX12_hasField_9 rfl ?_
    refine zr_goto (pc := 10) hV 14 dX12_hasField_10 (by decide) ?_
    show V 14 [some (ZR 0), some (ZI order), some (ZI field)] [ZI 1] 41 σ
    exact zr_zret (pc := 14) hV dX12_hasField_14 rfl rfl (by omega) ⟨rfl, _, rfl, ⟨by decide, by decide⟩, (by omega)⟩
set_option maxHeartbeats 800000 in
theorem c_X12_fieldMask {σ : zq_S} (hσ : zx_T σ) (order : Int) (q0 : 0 ≤ order ∧ order ≤ 20) : zq_C zx_w yX12_fieldMask cX12_fieldMask 4 (some .int) 2 46 41 41 [ZR 0, ZI order] σ (zq_pp σ (fun r => r = zx_fm σ order 4)) := by
  refine zq_C_of (by decide) (Nat.le_refl _) (Nat.le_of_ble_eq_true rfl) [some (ZR 0), some (ZI order), none, none] rfl (fun V hV => ?_)
  show V 0 [some (ZR 0), some (ZI order), none, none] [] 41 σ
  refine zr_iconst (pc := 0) hV 0 dX12_fieldMask_0 rfl ?_
  refine zr_istore_n (pc := 1) hV [some (ZR 0), some (ZI order), some (ZI 0), none] dX12_fieldMask_1 rfl (by decide) rfl rfl ?_
  refine zr_iconst (pc := 2) hV 0 dX12_fieldMask_2 rfl ?_
  refine zr_istore_n (pc := 3) hV [some (ZR 0), some (ZI order), some (ZI 0), some (ZI 0)] dX12_fieldMask_3 rfl (by decide) rfl rfl ?_
  have L4 : ∀ (fuel : Nat) (x2_4 : Int) (x3_4 : Int), ((-2147483648) ≤ x2_4 ∧ x2_4 ≤ 2147483647) → (0 ≤ x3_4 ∧ x3_4 ≤ 4) → (x2_4 = zx_fm σ order x3_4) → 4 - x3_4 < (fuel : Int) → V 4 [some (ZR 0), some (ZI order), some (ZI x2_4), some (ZI x3_4)] [] 41 σ := by
    intro fuel
    induction fuel with
    | zero =>
      intro x2_4 x3_4 hx2_4 hx3_4 hi4_0 hm4
      exfalso; omega
    | succ fuel ih =>
      intro x2_4 x3_4 hx2_4 hx3_4 hi4_0 hm4
      have ih4 := ih
      show V 4 [some (ZR 0), some (ZI order), some (ZI x2_4), some (ZI x3_4)] [] 41 σ
      refine zr_iload_n (pc := 4) hV dX12_fieldMask_4 rfl rfl ?_
      refine zr_iconst (pc := 5) hV 4 dX12_fieldMask_5 rfl ?_
      refine zr_icmp_ge (pc := 6) hV 34 dX12_fieldMask_6 (by decide) (by omega) ⟨by decide, by decide⟩ (fun c1 => ?_) (fun c1 => ?_)
      · show V 34 [some (ZR 0), some (ZI order), some (ZI x2_4), some (ZI x3_4)] [] 41 σ
        refine zr_iload_n (pc := 34) hV dX12_fieldMask_34 rfl rfl ?_
        exact zr_iret (pc := 35) hV dX12_fieldMask_35 rfl rfl ⟨rfl, _, rfl, (by omega), (by rw [show (4 : Int) = x3_4 by omega]; exact hi4_0)⟩
      · show V 9 [some (ZR 0), some (ZI order), some (ZI x2_4), some (ZI x3_4)] [] 41 σ
        refine zr_iload_n (pc := 9) hV dX12_fieldMask_9 rfl rfl ?_
        refine zr_aload_n (pc := 10) hV dX12_fieldMask_10 rfl rfl ?_
        refine zr_iload_n (pc := 11) hV dX12_fieldMask_11 rfl rfl ?_
        refine zr_iload_n (pc := 12) hV dX12_fieldMask_12 rfl rfl ?_
        refine zr_callVp (pc := 13) hV [ZI order, ZI x3_4] (st := [ZI x2_4]) (c_X12_hasField (σ := σ) hσ order x3_4 (by omega) (by omega)) dX12_fieldMask_13 mX12_188 rfl (by decide) (by decide) (Nat.le_of_ble_eq_true rfl) (Nat.le_refl _) (fun r13 hr13 pr13 => ?_)
        have t2 := zx_g2 hσ
        refine zr_if_eq (pc := 16) hV 25 dX12_fieldMask_16 (by decide) (by omega) (fun c3 => ?_) (fun c3 => ?_)
        · show V 25 [some (ZR 0), some (ZI order), some (ZI x2_4), some (ZI x3_4)] [ZI x2_4] 41 σ
          refine zr_iconst (pc := 25) hV 0 dX12_fieldMask_25 rfl ?_
          show V 26 [some (ZR 0), some (ZI order), some (ZI x2_4), some (ZI x3_4)] [ZI 0, ZI x2_4] 41 σ
          refine zr_ior (pc := 26) hV dX12_fieldMask_26 ?_
          have t4 := zq_or_in x2_4 0
          refine zr_istore_n (pc := 27) hV [some (ZR 0), some (ZI order), some (ZI (zq_or x2_4 0)), some (ZI x3_4)] dX12_fieldMask_27 rfl (by decide) rfl rfl ?_
          refine zr_iinc (pc := 28) hV [some (ZR 0), some (ZI order), some (ZI (zq_or x2_4 0)), some (ZI (x3_4 + 1))] (x3_4 + 1) dX12_fieldMask_28 rfl rfl (by decide) rfl rfl ?_
          refine zr_goto (pc := 31) hV 4 dX12_fieldMask_31 (by decide) ?_
          exact ih4 (zq_or x2_4 0) (x3_4 + 1) (by omega) (by omega) (by rw [(zx_fm_s σ order x3_4 (by omega)).2 (by omega), ← hi4_0]) (by omega)
        · show V 19 [some (ZR 0), some (ZI order), some (ZI x2_4), some (ZI x3_4)] [ZI x2_4] 41 σ
          refine zr_iconst (pc := 19) hV 1 dX12_fieldMask_19 rfl ?_
          refine zr_iload_n (pc := 20) hV dX12_fieldMask_20 rfl rfl ?_
          refine zr_ishl (pc := 21) hV dX12_fieldMask_21 ?_
          have t5 := zx_shl_one (y := x3_4) 3 8 (by decide) (by decide) (by omega)
          refine zr_goto (pc := 22) hV 26 dX12_fieldMask_22 (by decide) ?_
          show V 26 [some (ZR 0), some (ZI order), some (ZI x2_4), some (ZI x3_4)] [ZI (zq_shl 1 x3_4), ZI x2_4] 41 σ
          refine zr_ior (pc := 26) hV dX12_fieldMask_26 ?_
          have t6 := zq_or_in x2_4 (zq_shl 1 x3_4)
          refine zr_istore_n (pc := 27) hV [some (ZR 0), some (ZI order), some (ZI (zq_or x2_4 (zq_shl 1 x3_4))), some (ZI x3_4)] dX12_fieldMask_27 rfl (by decide) rfl rfl ?_
          refine zr_iinc (pc := 28) hV [some (ZR 0), some (ZI order), some (ZI (zq_or x2_4 (zq_shl 1 x3_4))), some (ZI (x3_4 + 1))] (x3_4 + 1) dX12_fieldMask_28 rfl rfl (by decide) rfl rfl ?_
          refine zr_goto (pc := 31) hV 4 dX12_fieldMask_31 (by decide) ?_
          exact ih4 (zq_or x2_4 (zq_shl 1 x3_4)) (x3_4 + 1) (by omega) (by omega) (by rw [(zx_fm_s σ order x3_4 (by omega)).1 (by omega), ← hi4_0]) (by omega)
  exact L4 (4 - (0 : Int) + 1 : Int).toNat 0 0 (by omega) (by omega) (zx_fm_0 σ order).symm (by omega)
set_option maxHeartbeats 800000 in
theorem c_X12_isOrder {σ : zq_S} (hσ : zx_T σ) (o : Int) (q0 : zq_in o) : zq_C zx_w yX12_isOrder cX12_isOrder 2 (some .boolean) 1 25 41 41 [ZR 0, ZI o] σ (zq_pp σ (fun r => (r = 0 ∨ r = 1) ∧ (r = 1 ↔ 0 ≤ o ∧ o < σ 0 3))) := by
  refine zq_C_of (by decide) (Nat.le_refl _) (Nat.le_of_ble_eq_true rfl) [some (ZR 0), some (ZI o)] rfl (fun V hV => ?_)
  show V 0 [some (ZR 0), some (ZI o)] [] 41 σ
  refine zr_iload_n (pc := 0) hV dX12_isOrder_0 rfl rfl ?_
  refine zr_i2l (pc := 1) hV dX12_isOrder_1 (by omega) ?_
  refine zr_lconst (pc := 2) hV 0 dX12_isOrder_2 (by decide) ?_
  refine zr_aload_n (pc := 3) hV dX12_isOrder_3 rfl rfl ?_
  refine zr_getI (pc := 4) hV 3 dX12_isOrder_4 fX12_150 rfl rfl rfl (by decide) ?_
  have t1 := zx_g3 hσ
  refine zr_iconst (pc := 7) hV 1 dX12_isOrder_7 rfl ?_
  refine zr_isub (pc := 8) hV dX12_isOrder_8 ?_
  refine zr_i2l (pc := 9) hV dX12_isOrder_9 (by omega) ?_
  refine zr_callSp (pc := 10) hV [ZL o, ZL 0, ZL ((σ 0 3) - 1)] (st := []) (c_X12_in (σ := σ) o 0 ((σ 0 3) - 1) (by omega) (by omega) (by omega)) dX12_isOrder_10 mX12_170 (by decide) (Nat.le_of_ble_eq_true rfl) (Nat.le_refl _) (fun r10 hr10 pr10 => ?_)
  exact zr_zret (pc := 13) hV dX12_isOrder_13 rfl rfl (by omega) ⟨rfl, _, rfl, (by omega), (by omega)⟩
set_option maxHeartbeats 800000 in
theorem c_X12_type {σ : zq_S} (hσ : zx_T σ) (v n : Int) (q0 : zq_inL v) (q1 : zq_in n) : zq_C zx_w yX12_type cX12_type 5 (some .int) 1 25 41 41 [ZR 0, ZL v, ZI n] σ (zq_pi (fun r τ => zx_T τ ∧ (∀ a i : Int, (¬ (a = 0 ∧ i = 14) ∧ a ≠ 10) → τ a i = σ a i) ∧ (True))) := by
  refine zq_C_of (by decide) (Nat.le_refl _) (Nat.le_of_ble_eq_true rfl) [some (ZR 0), some (ZL v), none, some (ZI n), none] rfl (fun V hV => ?_)
  show V 0 [some (ZR 0), some (ZL v), none, some (ZI n), none] [] 41 σ
  refine zr_iload_n (pc := 0) hV dX12_type_0 rfl rfl ?_
  refine zr_i2l (pc := 1) hV dX12_type_1 (by omega) ?_
  refine zr_lconst (pc := 2) hV 1 dX12_type_2 (by decide) ?_
  refine zr_ldc2 (pc := 3) (v := 8) hV 8 dX12_type_3 kX12_168 (by decide) ?_
  refine zr_callSp (pc := 6) hV [ZL n, ZL 1, ZL 8] (st := []) (c_X12_in (σ := σ) n 1 8 (by omega) (by omega) (by omega)) dX12_type_6 mX12_170 (by decide) (Nat.le_of_ble_eq_true rfl) (Nat.le_refl _) (fun r6 hr6 pr6 => ?_)
  refine zr_if_ne (pc := 9) hV 14 dX12_type_9 (by decide) (by omega) (fun c1 => ?_) (fun c1 => ?_)
  · show V 14 [some (ZR 0), some (ZL v), none, some (ZI n), none] [] 41 σ
    refine zr_iload_n (pc := 14) hV dX12_type_14 rfl rfl ?_
    refine zr_iconst (pc := 15) hV 1 dX12_type_15 rfl ?_
    refine zr_isub (pc := 16) hV dX12_type_16 ?_
    refine zr_istore (pc := 17) hV [some (ZR 0), some (ZL v), none, some (ZI n), some (ZI (n - 1))] dX12_type_17 (by decide) rfl rfl ?_
    have L19 : ∀ (fuel : Nat) (x4_19 : Int), ((-1) ≤ x4_19 ∧ x4_19 ≤ 7) → x4_19 - (-1) < (fuel : Int) → V 19 [some (ZR 0), some (ZL v), none, some (ZI n), some (ZI x4_19)] [] 41 σ := by
      intro fuel
      induction fuel with
      | zero =>
        intro x4_19 hx4_19 hm19
        exfalso; omega
      | succ fuel ih =>
        intro x4_19 hx4_19 hm19
        have ih19 := ih
        show V 19 [some (ZR 0), some (ZL v), none, some (ZI n), some (ZI x4_19)] [] 41 σ
        refine zr_iload (pc := 19) hV dX12_type_19 rfl ?_
        refine zr_if_lt (pc := 21) hV 55 dX12_type_21 (by decide) (by omega) (fun c2 => ?_) (fun c2 => ?_)
        · show V 55 [some (ZR 0), some (ZL v), none, some (ZI n), some (ZI x4_19)] [] 41 σ
          refine zr_aload_n (pc := 55) hV dX12_type_55 rfl rfl ?_
          refine zr_getI (pc := 56) hV 14 dX12_type_56 fX12_197 rfl rfl rfl (by decide) ?_
          have t3 := zx_g14 hσ
          refine zr_iload_n (pc := 59) hV dX12_type_59 rfl rfl ?_
          refine zr_iadd (pc := 60) hV dX12_type_60 ?_
          refine zr_bipush (pc := 61) hV 80 dX12_type_61 (by decide) ?_
          refine zr_icmp_le (pc := 63) hV 69 dX12_type_63 (by decide) (by omega) ⟨by decide, by decide⟩ (fun c4 => ?_) (fun c4 => ?_)
          · show V 69 [some (ZR 0), some (ZL v), none, some (ZI n), some (ZI x4_19)] [] 41 σ
            refine zr_iload_n (pc := 69) hV dX12_type_69 rfl rfl ?_
            refine zr_iconst (pc := 70) hV 1 dX12_type_70 rfl ?_
            refine zr_isub (pc := 71) hV dX12_type_71 ?_
            refine zr_istore (pc := 72) hV [some (ZR 0), some (ZL v), none, some (ZI n), some (ZI (n - 1))] dX12_type_72 (by decide) rfl rfl ?_
            have L74 : ∀ (fuel : Nat) (x4_74 : Int) (σ_74 : zq_S), ((-1) ≤ x4_74 ∧ x4_74 ≤ 7) → (zx_T σ_74) → (∀ a i : Int, (¬ (a = 0 ∧ i = 14) ∧ a ≠ 10) → σ_74 a i = σ a i) → (σ_74 0 14 + x4_74 + 1 ≤ 80) → x4_74 - (-1) < (fuel : Int) → V 74 [some (ZR 0), some (ZL v), none, none, some (ZI x4_74)] [] 41 σ_74 := by
              intro fuel
              induction fuel with
              | zero =>
                intro x4_74 σ_74 hx4_74 hσ_74 hFσ_74 hi74_0 hm74
                exfalso; omega
              | succ fuel ih =>
                intro x4_74 σ_74 hx4_74 hσ_74 hFσ_74 hi74_0 hm74
                have ih74 := ih
                show V 74 [some (ZR 0), some (ZL v), none, none, some (ZI x4_74)] [] 41 σ_74
                refine zr_iload (pc := 74) hV dX12_type_74 rfl ?_
                refine zr_if_lt (pc := 76) hV 116 dX12_type_76 (by decide) (by omega) (fun c5 => ?_) (fun c5 => ?_)
                · show V 116 [some (ZR 0), some (ZL v), none, none, some (ZI x4_74)] [] 41 σ_74
                  refine zr_aload_n (pc := 116) hV dX12_type_116 rfl rfl ?_
                  refine zr_getI (pc := 117) hV 14 dX12_type_117 fX12_197 rfl rfl rfl (by decide) ?_
                  have t6 := zx_g14 hσ_74
                  exact zr_iret (pc := 120) hV dX12_type_120 rfl rfl ⟨_, rfl, (by omega), hσ_74, hFσ_74, trivial⟩
                · show V 79 [some (ZR 0), some (ZL v), none, none, some (ZI x4_74)] [] 41 σ_74
                  refine zr_aload_n (pc := 79) hV dX12_type_79 rfl rfl ?_
                  refine zr_getR (pc := 80) hV 13 10 dX12_type_80 fX12_47 rfl rfl rfl (by decide) (zx_g13 hσ_74) (by omega) ?_
                  refine zr_aload_n (pc := 83) hV dX12_type_83 rfl rfl ?_
                  refine zr_getI (pc := 84) hV 14 dX12_type_84 fX12_197 rfl rfl rfl (by decide) ?_
                  have t7 := zx_g14 hσ_74
                  refine zr_lload_n (pc := 87) hV dX12_type_87 rfl rfl ?_
                  refine zr_bipush (pc := 88) hV 8 dX12_type_88 (by decide) ?_
                  refine zr_iload (pc := 90) hV dX12_type_90 rfl ?_
                  refine zr_imul (pc := 92) hV dX12_type_92 ?_
                  refine zr_lshr (pc := 93) hV dX12_type_93 ?_
                  have t8 := zq_lshr_in v (8 * x4_74)
                  refine zr_ldc2 (pc := 94) (v := 255) hV 255 dX12_type_94 kX12_191 (by decide) ?_
                  refine zr_land (pc := 97) hV dX12_type_97 ?_
                  have t9 := zq_landL_in (zq_lshr v (8 * x4_74)) 255
                  refine zr_l2i (pc := 98) hV dX12_type_98 ?_
                  have t10 := zq_l2i_in (zq_landL (zq_lshr v (8 * x4_74)) 255)
                  refine zr_iast (pc := 99) hV dX12_type_99 rfl (by decide) rfl (by omega) (fun σ99 eσ99 => ?_)
                  have hσ99 : zx_T σ99 := zx_ua10 eσ99 hσ_74 (by omega)
                  have hFσ99 : ∀ a i : Int, (¬ (a = 0 ∧ i = 14) ∧ a ≠ 10) → σ99 a i = σ a i := fun a i h => by rw [eσ99, zq_up_ne (fun q => h.2 q.1)]; exact hFσ_74 a i h
                  refine zr_aload_n (pc := 100) hV dX12_type_100 rfl rfl ?_
                  refine zr_dup (pc := 101) hV dX12_type_101 (fun _ => rfl) ?_
                  refine zr_getI (pc := 102) hV 14 dX12_type_102 fX12_197 rfl rfl rfl (by decide) ?_
                  have t11 := zx_g14 hσ99
                  have t12 : σ99 0 14 = σ_74 0 14 := by rw [eσ99]; exact zq_up_ne (by omega)
                  refine zr_iconst (pc := 105) hV 1 dX12_type_105 rfl ?_
                  refine zr_iadd (pc := 106) hV dX12_type_106 ?_
                  refine zr_putI (pc := 107) hV 14 dX12_type_107 fX12_197 rfl rfl rfl rfl (by decide) (fun σ107 eσ107 => ?_)
                  have hσ107 : zx_T σ107 := zx_u14 eσ107 hσ99 (by omega)
                  have hFσ107 : ∀ a i : Int, (¬ (a = 0 ∧ i = 14) ∧ a ≠ 10) → σ107 a i = σ a i := fun a i h => by rw [eσ107, zq_up_ne h.1]; exact hFσ99 a i h
                  refine zr_iinc (pc := 110) hV [some (ZR 0), some (ZL v), none, none, some (ZI (x4_74 + (-1)))] (x4_74 + (-1)) dX12_type_110 rfl rfl (by decide) rfl rfl ?_
                  refine zr_goto (pc := 113) hV 74 dX12_type_113 (by decide) ?_
                  have t13 := zx_g14 hσ107
                  have t14 : σ107 0 14 = (σ99 0 14) + 1 := by rw [eσ107]; exact zq_up_same _ _ _ _
                  exact ih74 (x4_74 + (-1)) σ107 (by omega) hσ107 hFσ107 (by omega) (by omega)
            have t15 := zx_g14 hσ
            refine zr_sub (pc := 74) hV [some (ZR 0), some (ZL v), none, none, some (ZI (n - 1))] (⟨rfl, rfl, rfl, trivial⟩) ?_
            exact L74 ((n - 1) - (-1) + 1 : Int).toNat (n - 1) σ (by omega) hσ (fun a i _ => rfl) (by omega) (by omega)
          · show V 66 [some (ZR 0), some (ZL v), none, some (ZI n), some (ZI x4_19)] [] 41 σ
            refine zr_bipush (pc := 66) hV (-3) dX12_type_66 (by decide) ?_
            exact zr_iret (pc := 68) hV dX12_type_68 rfl rfl ⟨_, rfl, ⟨by decide, by decide⟩, hσ, (fun a i _ => rfl), trivial⟩
        · show V 24 [some (ZR 0), some (ZL v), none, some (ZI n), some (ZI x4_19)] [] 41 σ
          refine zr_lload_n (pc := 24) hV dX12_type_24 rfl rfl ?_
          refine zr_bipush (pc := 25) hV 8 dX12_type_25 (by decide) ?_
          refine zr_iload (pc := 27) hV dX12_type_27 rfl ?_
          refine zr_imul (pc := 29) hV dX12_type_29 ?_
          refine zr_lshr (pc := 30) hV dX12_type_30 ?_
          have t16 := zq_lshr_in v (8 * x4_19)
          refine zr_ldc2 (pc := 31) (v := 255) hV 255 dX12_type_31 kX12_191 (by decide) ?_
          refine zr_land (pc := 34) hV dX12_type_34 ?_
          have t17 := zq_landL_in (zq_lshr v (8 * x4_19)) 255
          refine zr_ldc2 (pc := 35) (v := 32) hV 32 dX12_type_35 kX12_193 (by decide) ?_
          refine zr_ldc2 (pc := 38) (v := 126) hV 126 dX12_type_38 kX12_195 (by decide) ?_
          refine zr_callSp (pc := 41) hV [ZL (zq_landL (zq_lshr v (8 * x4_19)) 255), ZL 32, ZL 126] (st := []) (c_X12_in (σ := σ) (zq_landL (zq_lshr v (8 * x4_19)) 255) 32 126 (by omega) (by omega) (by omega)) dX12_type_41 mX12_170 (by decide) (Nat.le_of_ble_eq_true rfl) (Nat.le_refl _) (fun r41 hr41 pr41 => ?_)
          refine zr_if_ne (pc := 44) hV 49 dX12_type_44 (by decide) (by omega) (fun c18 => ?_) (fun c18 => ?_)
          · show V 49 [some (ZR 0), some (ZL v), none, some (ZI n), some (ZI x4_19)] [] 41 σ
            refine zr_iinc (pc := 49) hV [some (ZR 0), some (ZL v), none, some (ZI n), some (ZI (x4_19 + (-1)))] (x4_19 + (-1)) dX12_type_49 rfl rfl (by decide) rfl rfl ?_
            refine zr_goto (pc := 52) hV 19 dX12_type_52 (by decide) ?_
            exact ih19 (x4_19 + (-1)) (by omega) (by omega)
          · show V 47 [some (ZR 0), some (ZL v), none, some (ZI n), some (ZI x4_19)] [] 41 σ
            refine zr_iconst (pc := 47) hV (-1) dX12_type_47 rfl ?_
            exact zr_iret (pc := 48) hV dX12_type_48 rfl rfl ⟨_, rfl, ⟨by decide, by decide⟩, hσ, (fun a i _ => rfl), trivial⟩
    exact L19 ((n - 1) - (-1) + 1 : Int).toNat (n - 1) (by omega) (by omega)
  · show V 12 [some (ZR 0), some (ZL v), none, some (ZI n), none] [] 41 σ
    refine zr_iconst (pc := 12) hV (-1) dX12_type_12 rfl ?_
    exact zr_iret (pc := 13) hV dX12_type_13 rfl rfl ⟨_, rfl, ⟨by decide, by decide⟩, hσ, (fun a i _ => rfl), trivial⟩
set_option maxHeartbeats 800000 in
theorem c_X12_next {σ : zq_S} (hσ : zx_T σ)  : zq_C zx_w yX12_next cX12_next 1 (some .int) 0 0 41 41 [ZR 0] σ (zq_pi (fun r τ => zx_T τ ∧ (∀ a i : Int, (¬ (a = 0 ∧ i = 15)) → τ a i = σ a i) ∧ (σ 0 15 ≤ τ 0 15 ∧ (0 ≤ r → τ 0 15 < σ 0 14)) ∧ zq_hid ((τ 0 15 < σ 0 14 → r = σ 10 (τ 0 15) ∧ r ≠ 32) ∧ (σ 0 15 < σ 0 14 ∧ σ 10 (σ 0 15) ≠ 32 → τ 0 15 = σ 0 15)))) := by
  refine zq_C_of (by decide) (Nat.le_refl _) (Nat.le_of_ble_eq_true rfl) [some (ZR 0)] rfl (fun V hV => ?_)
  have L0 : ∀ (fuel : Nat) (σ_0 : zq_S), (zx_T σ_0) → (∀ a i : Int, (¬ (a = 0 ∧ i = 15)) → σ_0 a i = σ a i) → (σ 0 15 ≤ σ_0 0 15) → (σ 0 15 < σ 0 14 ∧ σ 10 (σ 0 15) ≠ 32 → σ_0 0 15 = σ 0 15) → 80 - σ_0 0 15 < (fuel : Int) → V 0 [some (ZR 0)] [] 41 σ_0 := by
    intro fuel
    induction fuel with
    | zero =>
      intro σ_0 hσ_0 hFσ_0 hi0_0 hi0_1 hm0
      have t1 := zx_g15 hσ_0
      exfalso; omega
    | succ fuel ih =>
      intro σ_0 hσ_0 hFσ_0 hi0_0 hi0_1 hm0
      have ih0 := ih
      show V 0 [some (ZR 0)] [] 41 σ_0
      refine zr_aload_n (pc := 0) hV dX12_next_0 rfl rfl ?_
      refine zr_getI (pc := 1) hV 15 dX12_next_1 fX12_200 rfl rfl rfl (by decide) ?_
      have t2 := zx_g15 hσ_0
      refine zr_aload_n (pc := 4) hV dX12_next_4 rfl rfl ?_
      refine zr_getI (pc := 5) hV 14 dX12_next_5 fX12_197 rfl rfl rfl (by decide) ?_
      have t3 := zx_g14 hσ_0
      have t4 : σ_0 0 14 = σ 0 14 := hFσ_0 _ _ (by omega)
      refine zr_icmp_ge (pc := 8) hV 38 dX12_next_8 (by decide) (by omega) (by omega) (fun c5 => ?_) (fun c5 => ?_)
      · show V 38 [some (ZR 0)] [] 41 σ_0
        refine zr_aload_n (pc := 38) hV dX12_next_38 rfl rfl ?_
        refine zr_getI (pc := 39) hV 15 dX12_next_39 fX12_200 rfl rfl rfl (by decide) ?_
        have t6 := zx_g15 hσ_0
        refine zr_aload_n (pc := 42) hV dX12_next_42 rfl rfl ?_
        refine zr_getI (pc := 43) hV 14 dX12_next_43 fX12_197 rfl rfl rfl (by decide) ?_
        have t7 := zx_g14 hσ_0
        have t8 : σ_0 0 14 = σ 0 14 := hFσ_0 _ _ (by omega)
        refine zr_icmp_ge (pc := 46) hV 61 dX12_next_46 (by decide) (by omega) (by omega) (fun c9 => ?_) (fun c9 => ?_)
        · show V 61 [some (ZR 0)] [] 41 σ_0
          refine zr_iconst (pc := 61) hV (-1) dX12_next_61 rfl ?_
          show V 62 [some (ZR 0)] [ZI (-1)] 41 σ_0
          have t10 := zx_g15 hσ_0
          have t11 := zx_g15 hσ_0
          exact zr_iret (pc := 62) hV dX12_next_62 rfl rfl ⟨_, rfl, ⟨by decide, by decide⟩, hσ_0, hFσ_0, (by omega), (show (σ_0 0 15 < σ 0 14 → ((-1) : Int) = σ 10 (σ_0 0 15) ∧ ((-1) : Int) ≠ 32) ∧ (σ 0 15 < σ 0 14 ∧ σ 10 (σ 0 15) ≠ 32 → σ_0 0 15 = σ 0 15) from (by omega))⟩
        · show V 49 [some (ZR 0)] [] 41 σ_0
          refine zr_aload_n (pc := 49) hV dX12_next_49 rfl rfl ?_
          refine zr_getR (pc := 50) hV 13 10 dX12_next_50 fX12_47 rfl rfl rfl (by decide) (zx_g13 hσ_0) (by omega) ?_
          refine zr_aload_n (pc := 53) hV dX12_next_53 rfl rfl ?_
          refine zr_getI (pc := 54) hV 15 dX12_next_54 fX12_200 rfl rfl rfl (by decide) ?_
          have t12 := zx_g15 hσ_0
          refine zr_iald (pc := 57) hV dX12_next_57 rfl (by decide) rfl (by omega) ?_
          have t13 := zx_ga10 hσ_0 (σ_0 0 15)
          have t14 : σ_0 10 (σ_0 0 15) = σ 10 (σ_0 0 15) := hFσ_0 _ _ (by omega)
          refine zr_goto (pc := 58) hV 62 dX12_next_58 (by decide) ?_
          show V 62 [some (ZR 0)] [ZI (σ_0 10 (σ_0 0 15))] 41 σ_0
          have t15 := zx_g15 hσ_0
          have t16 := zx_g15 hσ_0
          exact zr_iret (pc := 62) hV dX12_next_62 rfl rfl ⟨_, rfl, (by omega), hσ_0, hFσ_0, (by omega), (show (σ_0 0 15 < σ 0 14 → (σ_0 10 (σ_0 0 15)) = σ 10 (σ_0 0 15) ∧ (σ_0 10 (σ_0 0 15)) ≠ 32) ∧ (σ 0 15 < σ 0 14 ∧ σ 10 (σ 0 15) ≠ 32 → σ_0 0 15 = σ 0 15) from (by omega))⟩
      · show V 11 [some (ZR 0)] [] 41 σ_0
        refine zr_aload_n (pc := 11) hV dX12_next_11 rfl rfl ?_
        refine zr_getR (pc := 12) hV 13 10 dX12_next_12 fX12_47 rfl rfl rfl (by decide) (zx_g13 hσ_0) (by omega) ?_
        refine zr_aload_n (pc := 15) hV dX12_next_15 rfl rfl ?_
        refine zr_getI (pc := 16) hV 15 dX12_next_16 fX12_200 rfl rfl rfl (by decide) ?_
        have t17 := zx_g15 hσ_0
        refine zr_iald (pc := 19) hV dX12_next_19 rfl (by decide) rfl (by omega) ?_
        have t18 := zx_ga10 hσ_0 (σ_0 0 15)
        have t19 : σ_0 10 (σ_0 0 15) = σ 10 (σ_0 0 15) := hFσ_0 _ _ (by omega)
        refine zr_bipush (pc := 20) hV 32 dX12_next_20 (by decide) ?_
        refine zr_icmp_ne (pc := 22) hV 38 dX12_next_22 (by decide) (by omega) ⟨by decide, by decide⟩ (fun c20 => ?_) (fun c20 => ?_)
        · show V 38 [some (ZR 0)] [] 41 σ_0
          refine zr_aload_n (pc := 38) hV dX12_next_38 rfl rfl ?_
          refine zr_getI (pc := 39) hV 15 dX12_next_39 fX12_200 rfl rfl rfl (by decide) ?_
          have t21 := zx_g15 hσ_0
          refine zr_aload_n (pc := 42) hV dX12_next_42 rfl rfl ?_
          refine zr_getI (pc := 43) hV 14 dX12_next_43 fX12_197 rfl rfl rfl (by decide) ?_
          have t22 := zx_g14 hσ_0
          have t23 : σ_0 0 14 = σ 0 14 := hFσ_0 _ _ (by omega)
          refine zr_icmp_ge (pc := 46) hV 61 dX12_next_46 (by decide) (by omega) (by omega) (fun c24 => ?_) (fun c24 => ?_)
          · show V 61 [some (ZR 0)] [] 41 σ_0
            refine zr_iconst (pc := 61) hV (-1) dX12_next_61 rfl ?_
            show V 62 [some (ZR 0)] [ZI (-1)] 41 σ_0
            have t25 := zx_g15 hσ_0
            have t26 := zx_g15 hσ_0
            exact zr_iret (pc := 62) hV dX12_next_62 rfl rfl ⟨_, rfl, ⟨by decide, by decide⟩, hσ_0, hFσ_0, (by omega), (show (σ_0 0 15 < σ 0 14 → ((-1) : Int) = σ 10 (σ_0 0 15) ∧ ((-1) : Int) ≠ 32) ∧ (σ 0 15 < σ 0 14 ∧ σ 10 (σ 0 15) ≠ 32 → σ_0 0 15 = σ 0 15) from (by omega))⟩
          · show V 49 [some (ZR 0)] [] 41 σ_0
            refine zr_aload_n (pc := 49) hV dX12_next_49 rfl rfl ?_
            refine zr_getR (pc := 50) hV 13 10 dX12_next_50 fX12_47 rfl rfl rfl (by decide) (zx_g13 hσ_0) (by omega) ?_
            refine zr_aload_n (pc := 53) hV dX12_next_53 rfl rfl ?_
            refine zr_getI (pc := 54) hV 15 dX12_next_54 fX12_200 rfl rfl rfl (by decide) ?_
            have t27 := zx_g15 hσ_0
            refine zr_iald (pc := 57) hV dX12_next_57 rfl (by decide) rfl (by omega) ?_
            have t28 := zx_ga10 hσ_0 (σ_0 0 15)
            have t29 : σ_0 10 (σ_0 0 15) = σ 10 (σ_0 0 15) := hFσ_0 _ _ (by omega)
            refine zr_goto (pc := 58) hV 62 dX12_next_58 (by decide) ?_
            show V 62 [some (ZR 0)] [ZI (σ_0 10 (σ_0 0 15))] 41 σ_0
            have t30 := zx_g15 hσ_0
            have t31 := zx_g15 hσ_0
            exact zr_iret (pc := 62) hV dX12_next_62 rfl rfl ⟨_, rfl, (by omega), hσ_0, hFσ_0, (by omega), (show (σ_0 0 15 < σ 0 14 → (σ_0 10 (σ_0 0 15)) = σ 10 (σ_0 0 15) ∧ (σ_0 10 (σ_0 0 15)) ≠ 32) ∧ (σ 0 15 < σ 0 14 ∧ σ 10 (σ 0 15) ≠ 32 → σ_0 0 15 = σ 0 15) from (by omega))⟩
        · show V 25 [some (ZR 0)] [] 41 σ_0
          have zc : σ_0 0 15 = σ 0 15 → σ 10 (σ_0 0 15) = σ 10 (σ 0 15) := fun h => by rw [h]
          refine zr_aload_n (pc := 25) hV dX12_next_25 rfl rfl ?_
          refine zr_dup (pc := 26) hV dX12_next_26 (fun _ => rfl) ?_
          refine zr_getI (pc := 27) hV 15 dX12_next_27 fX12_200 rfl rfl rfl (by decide) ?_
          have t32 := zx_g15 hσ_0
          refine zr_iconst (pc := 30) hV 1 dX12_next_30 rfl ?_
          refine zr_iadd (pc := 31) hV dX12_next_31 ?_
          refine zr_putI (pc := 32) hV 15 dX12_next_32 fX12_200 rfl rfl rfl rfl (by decide) (fun σ32 eσ32 => ?_)
          have hσ32 : zx_T σ32 := zx_u15 eσ32 hσ_0 (by omega)
          have hFσ32 : ∀ a i : Int, (¬ (a = 0 ∧ i = 15)) → σ32 a i = σ a i := fun a i h => by rw [eσ32, zq_up_ne h]; exact hFσ_0 a i h
          refine zr_goto (pc := 35) hV 0 dX12_next_35 (by decide) ?_
          have t33 := zx_g15 hσ32
          have t34 : σ32 0 15 = (σ_0 0 15) + 1 := by rw [eσ32]; exact zq_up_same _ _ _ _
          have t35 := zx_g15 hσ32
          have t36 : σ32 0 15 = (σ_0 0 15) + 1 := by rw [eσ32]; exact zq_up_same _ _ _ _
          have t37 := zx_g15 hσ32
          have t38 : σ32 0 15 = (σ_0 0 15) + 1 := by rw [eσ32]; exact zq_up_same _ _ _ _
          exact ih0 σ32 hσ32 hFσ32 (by omega) (by omega) (by omega)
  have t39 := zx_g15 hσ
  have t40 := zx_g15 hσ
  have t41 := zx_g15 hσ
  exact L0 (80 - σ 0 15 + 1 : Int).toNat σ hσ (fun a i _ => rfl) (by omega) (by omega) (by omega)
set_option maxHeartbeats 800000 in
theorem c_X12_takes {σ : zq_S} (hσ : zx_T σ) (c : Int) (q0 : 0 ≤ c ∧ c ≤ 127) : zq_C zx_w yX12_takes cX12_takes 3 (some .boolean) 1 20 41 41 [ZR 0, ZI c] σ (zq_pi (fun r τ => zx_T τ ∧ (∀ a i : Int, (¬ (a = 0 ∧ i = 15)) → τ a i = σ a i) ∧ ((r = 0 ∨ r = 1) ∧ σ 0 15 ≤ τ 0 15 ∧ (r = 1 → σ 0 15 < τ 0 15)))) := by
  refine zq_C_of (by decide) (Nat.le_refl _) (Nat.le_of_ble_eq_true rfl) [some (ZR 0), some (ZI c), none] rfl (fun V hV => ?_)
  have z14 := zx_g14 hσ
  show V 0 [some (ZR 0), some (ZI c), none] [] 41 σ
  refine zr_aload_n (pc := 0) hV dX12_takes_0 rfl rfl ?_
  refine zr_callVi (pc := 1) hV [] (st := []) (c_X12_next (σ := σ) hσ ) dX12_takes_1 mX12_203 rfl (by decide) (by decide) (Nat.le_of_ble_eq_true rfl) (Nat.le_refl _) (fun r1 σ1 hr1 pσ1 => ?_)
  obtain ⟨hσ1, hfσ1, pσ1, wσ1⟩ := pσ1
  have hFσ1 : ∀ a i : Int, (¬ (a = 0 ∧ i = 15)) → σ1 a i = σ a i := fun a i h => (hfσ1 a i h)
  have t1 := zx_g14 hσ
  have t2 := zx_g15 hσ
  have t3 := zx_g15 hσ1
  refine zr_iload_n (pc := 4) hV dX12_takes_4 rfl rfl ?_
  refine zr_icmp_ne (pc := 5) hV 12 dX12_takes_5 (by decide) (by omega) (by omega) (fun c4 => ?_) (fun c4 => ?_)
  · show V 12 [some (ZR 0), some (ZI c), none] [] 41 σ1
    refine zr_iconst (pc := 12) hV 0 dX12_takes_12 rfl ?_
    show V 13 [some (ZR 0), some (ZI c), none] [ZI 0] 41 σ1
    refine zr_istore_n (pc := 13) hV [some (ZR 0), some (ZI c), some (ZI 0)] dX12_takes_13 rfl (by decide) rfl rfl ?_
    refine zr_aload_n (pc := 14) hV dX12_takes_14 rfl rfl ?_
    refine zr_dup (pc := 15) hV dX12_takes_15 (fun _ => rfl) ?_
    refine zr_getI (pc := 16) hV 15 dX12_takes_16 fX12_200 rfl rfl rfl (by decide) ?_
    have t5 := zx_g15 hσ1
    refine zr_iload_n (pc := 19) hV dX12_takes_19 rfl rfl ?_
    refine zr_if_eq (pc := 20) hV 27 dX12_takes_20 (by decide) ⟨by decide, by decide⟩ (fun c6 => ?_) (fun c6 => ?_)
    · show V 27 [some (ZR 0), some (ZI c), some (ZI 0)] [ZI (σ1 0 15), ZR 0] 41 σ1
      refine zr_iconst (pc := 27) hV 0 dX12_takes_27 rfl ?_
      show V 28 [some (ZR 0), some (ZI c), some (ZI 0)] [ZI 0, ZI (σ1 0 15), ZR 0] 41 σ1
      refine zr_iadd (pc := 28) hV dX12_takes_28 ?_
      refine zr_putI (pc := 29) hV 15 dX12_takes_29 fX12_200 rfl rfl rfl rfl (by decide) (fun σ29 eσ29 => ?_)
      have hσ29 : zx_T σ29 := zx_u15 eσ29 hσ1 (by omega)
      have hFσ29 : ∀ a i : Int, (¬ (a = 0 ∧ i = 15)) → σ29 a i = σ a i := fun a i h => by rw [eσ29, zq_up_ne h]; exact hFσ1 a i h
      refine zr_iload_n (pc := 32) hV dX12_takes_32 rfl rfl ?_
      have t7 := zx_g15 hσ29
      have t8 : σ29 0 15 = (σ1 0 15) + 0 := by rw [eσ29]; exact zq_up_same _ _ _ _
      exact zr_zret (pc := 33) hV dX12_takes_33 rfl rfl (by omega) ⟨_, rfl, ⟨by decide, by decide⟩, hσ29, hFσ29, (by omega)⟩
    · exfalso; omega
  · show V 8 [some (ZR 0), some (ZI c), none] [] 41 σ1
    refine zr_iconst (pc := 8) hV 1 dX12_takes_8 rfl ?_
    refine zr_goto (pc := 9) hV 13 dX12_takes_9 (by decide) ?_
    show V 13 [some (ZR 0), some (ZI c), none] [ZI 1] 41 σ1
    refine zr_istore_n (pc := 13) hV [some (ZR 0), some (ZI c), some (ZI 1)] dX12_takes_13 rfl (by decide) rfl rfl ?_
    refine zr_aload_n (pc := 14) hV dX12_takes_14 rfl rfl ?_
    refine zr_dup (pc := 15) hV dX12_takes_15 (fun _ => rfl) ?_
    refine zr_getI (pc := 16) hV 15 dX12_takes_16 fX12_200 rfl rfl rfl (by decide) ?_
    have t9 := zx_g15 hσ1
    refine zr_iload_n (pc := 19) hV dX12_takes_19 rfl rfl ?_
    refine zr_if_eq (pc := 20) hV 27 dX12_takes_20 (by decide) ⟨by decide, by decide⟩ (fun c10 => ?_) (fun c10 => ?_)
    · exfalso; omega
    · show V 23 [some (ZR 0), some (ZI c), some (ZI 1)] [ZI (σ1 0 15), ZR 0] 41 σ1
      refine zr_iconst (pc := 23) hV 1 dX12_takes_23 rfl ?_
      refine zr_goto (pc := 24) hV 28 dX12_takes_24 (by decide) ?_
      show V 28 [some (ZR 0), some (ZI c), some (ZI 1)] [ZI 1, ZI (σ1 0 15), ZR 0] 41 σ1
      refine zr_iadd (pc := 28) hV dX12_takes_28 ?_
      refine zr_putI (pc := 29) hV 15 dX12_takes_29 fX12_200 rfl rfl rfl rfl (by decide) (fun σ29 eσ29 => ?_)
      have hσ29 : zx_T σ29 := zx_u15 eσ29 hσ1 (by omega)
      have hFσ29 : ∀ a i : Int, (¬ (a = 0 ∧ i = 15)) → σ29 a i = σ a i := fun a i h => by rw [eσ29, zq_up_ne h]; exact hFσ1 a i h
      refine zr_iload_n (pc := 32) hV dX12_takes_32 rfl rfl ?_
      have t11 := zx_g15 hσ29
      have t12 : σ29 0 15 = (σ1 0 15) + 1 := by rw [eσ29]; exact zq_up_same _ _ _ _
      exact zr_zret (pc := 33) hV dX12_takes_33 rfl rfl (by omega) ⟨_, rfl, ⟨by decide, by decide⟩, hσ29, hFσ29, (by omega)⟩
set_option maxHeartbeats 800000 in
theorem c_X12_number {σ : zq_S} (hσ : zx_T σ) (high : Int) (q0 : 0 ≤ high ∧ high ≤ 4095) : zq_C zx_w yX12_number cX12_number 5 (some .int) 1 25 41 41 [ZR 0, ZI high] σ (zq_pi (fun r τ => zx_T τ ∧ (∀ a i : Int, (¬ (a = 0 ∧ i = 15)) → τ a i = σ a i) ∧ (-1 ≤ r ∧ r ≤ high ∧ σ 0 15 ≤ τ 0 15 ∧ (0 ≤ r → σ 0 15 < τ 0 15)))) := by
  refine zq_C_of (by decide) (Nat.le_refl _) (Nat.le_of_ble_eq_true rfl) [some (ZR 0), some (ZI high), none, none, none] rfl (fun V hV => ?_)
  have z14 := zx_g14 hσ
  show V 0 [some (ZR 0), some (ZI high), none, none, none] [] 41 σ
  refine zr_aload_n (pc := 0) hV dX12_number_0 rfl rfl ?_
  refine zr_callVi (pc := 1) hV [] (st := []) (c_X12_next (σ := σ) hσ ) dX12_number_1 mX12_203 rfl (by decide) (by decide) (Nat.le_of_ble_eq_true rfl) (Nat.le_refl _) (fun r1 σ1 hr1 pσ1 => ?_)
  obtain ⟨hσ1, hfσ1, pσ1, wσ1⟩ := pσ1
  have hFσ1 : ∀ a i : Int, (¬ (a = 0 ∧ i = 15)) → σ1 a i = σ a i := fun a i h => (hfσ1 a i h)
  have t1 := zx_g14 hσ
  have t2 := zx_g15 hσ
  have t3 := zx_g15 hσ1
  refine zr_istore_n (pc := 4) hV [some (ZR 0), some (ZI high), some (ZI r1), none, none] dX12_number_4 rfl (by decide) rfl rfl ?_
  refine zr_aload_n (pc := 5) hV dX12_number_5 rfl rfl ?_
  refine zr_getI (pc := 6) hV 15 dX12_number_6 fX12_200 rfl rfl rfl (by decide) ?_
  have t4 := zx_g15 hσ1
  refine zr_istore_n (pc := 9) hV [some (ZR 0), some (ZI high), some (ZI r1), some (ZI (σ1 0 15)), none] dX12_number_9 rfl (by decide) rfl rfl ?_
  refine zr_iconst (pc := 10) hV 0 dX12_number_10 rfl ?_
  refine zr_istore (pc := 11) hV [some (ZR 0), some (ZI high), some (ZI r1), some (ZI (σ1 0 15)), some (ZI 0)] dX12_number_11 (by decide) rfl rfl ?_
  have L13 : ∀ (fuel : Nat) (x4_13 : Int) (σ_13 : zq_S), (0 ≤ x4_13 ∧ x4_13 ≤ 40959) → (zx_T σ_13) → (∀ a i : Int, (¬ (a = 0 ∧ i = 15)) → σ_13 a i = σ a i) → (σ 0 15 ≤ (σ1 0 15)) → ((σ1 0 15) ≤ σ_13 0 15) → 80 - σ_13 0 15 < (fuel : Int) → V 13 [some (ZR 0), some (ZI high), some (ZI r1), some (ZI (σ1 0 15)), some (ZI x4_13)] [] 41 σ_13 := by
    intro fuel
    induction fuel with
    | zero =>
      intro x4_13 σ_13 hx4_13 hσ_13 hFσ_13 hi13_0 hi13_1 hm13
      have t5 := zx_g15 hσ_13
      exfalso; omega
    | succ fuel ih =>
      intro x4_13 σ_13 hx4_13 hσ_13 hFσ_13 hi13_0 hi13_1 hm13
      have ih13 := ih
      show V 13 [some (ZR 0), some (ZI high), some (ZI r1), some (ZI (σ1 0 15)), some (ZI x4_13)] [] 41 σ_13
      refine zr_aload_n (pc := 13) hV dX12_number_13 rfl rfl ?_
      refine zr_getI (pc := 14) hV 15 dX12_number_14 fX12_200 rfl rfl rfl (by decide) ?_
      have t6 := zx_g15 hσ_13
      refine zr_aload_n (pc := 17) hV dX12_number_17 rfl rfl ?_
      refine zr_getI (pc := 18) hV 14 dX12_number_18 fX12_197 rfl rfl rfl (by decide) ?_
      have t7 := zx_g14 hσ_13
      have t8 : σ_13 0 14 = σ 0 14 := hFσ_13 _ _ (by omega)
      have J90 : V 90 [some (ZR 0), some (ZI high), some (ZI r1), some (ZI (σ1 0 15)), some (ZI x4_13)] [] 41 σ_13 := by
        show V 90 [some (ZR 0), some (ZI high), some (ZI r1), some (ZI (σ1 0 15)), some (ZI x4_13)] [] 41 σ_13
        refine zr_iload_n (pc := 90) hV dX12_number_90 rfl rfl ?_
        refine zr_if_lt (pc := 91) hV 108 dX12_number_91 (by decide) (by omega) (fun c9 => ?_) (fun c9 => ?_)
        · show V 108 [some (ZR 0), some (ZI high), some (ZI r1), some (ZI (σ1 0 15)), some (ZI x4_13)] [] 41 σ_13
          refine zr_aload_n (pc := 108) hV dX12_number_108 rfl rfl ?_
          refine zr_iload_n (pc := 109) hV dX12_number_109 rfl rfl ?_
          refine zr_putI (pc := 110) hV 15 dX12_number_110 fX12_200 rfl rfl rfl rfl (by decide) (fun σ110 eσ110 => ?_)
          have hσ110 : zx_T σ110 := zx_u15 eσ110 hσ_13 (by omega)
          have hFσ110 : ∀ a i : Int, (¬ (a = 0 ∧ i = 15)) → σ110 a i = σ a i := fun a i h => by rw [eσ110, zq_up_ne h]; exact hFσ_13 a i h
          refine zr_iconst (pc := 113) hV (-1) dX12_number_113 rfl ?_
          have t10 := zx_g15 hσ110
          have t11 : σ110 0 15 = σ1 0 15 := by rw [eσ110]; exact zq_up_same _ _ _ _
          exact zr_iret (pc := 114) hV dX12_number_114 rfl rfl ⟨_, rfl, ⟨by decide, by decide⟩, hσ110, hFσ110, (by omega)⟩
        · show V 94 [some (ZR 0), some (ZI high), some (ZI r1), some (ZI (σ1 0 15)), some (ZI x4_13)] [] 41 σ_13
          refine zr_aload_n (pc := 94) hV dX12_number_94 rfl rfl ?_
          refine zr_getI (pc := 95) hV 15 dX12_number_95 fX12_200 rfl rfl rfl (by decide) ?_
          have t12 := zx_g15 hσ_13
          refine zr_iload_n (pc := 98) hV dX12_number_98 rfl rfl ?_
          refine zr_icmp_eq (pc := 99) hV 108 dX12_number_99 (by decide) (by omega) (by omega) (fun c13 => ?_) (fun c13 => ?_)
          · show V 108 [some (ZR 0), some (ZI high), some (ZI r1), some (ZI (σ1 0 15)), some (ZI x4_13)] [] 41 σ_13
            refine zr_aload_n (pc := 108) hV dX12_number_108 rfl rfl ?_
            refine zr_iload_n (pc := 109) hV dX12_number_109 rfl rfl ?_
            refine zr_putI (pc := 110) hV 15 dX12_number_110 fX12_200 rfl rfl rfl rfl (by decide) (fun σ110 eσ110 => ?_)
            have hσ110 : zx_T σ110 := zx_u15 eσ110 hσ_13 (by omega)
            have hFσ110 : ∀ a i : Int, (¬ (a = 0 ∧ i = 15)) → σ110 a i = σ a i := fun a i h => by rw [eσ110, zq_up_ne h]; exact hFσ_13 a i h
            refine zr_iconst (pc := 113) hV (-1) dX12_number_113 rfl ?_
            have t14 := zx_g15 hσ110
            have t15 : σ110 0 15 = σ1 0 15 := by rw [eσ110]; exact zq_up_same _ _ _ _
            exact zr_iret (pc := 114) hV dX12_number_114 rfl rfl ⟨_, rfl, ⟨by decide, by decide⟩, hσ110, hFσ110, (by omega)⟩
          · show V 102 [some (ZR 0), some (ZI high), some (ZI r1), some (ZI (σ1 0 15)), some (ZI x4_13)] [] 41 σ_13
            refine zr_iload (pc := 102) hV dX12_number_102 rfl ?_
            refine zr_iload_n (pc := 104) hV dX12_number_104 rfl rfl ?_
            refine zr_icmp_le (pc := 105) hV 115 dX12_number_105 (by decide) (by omega) (by omega) (fun c16 => ?_) (fun c16 => ?_)
            · show V 115 [some (ZR 0), some (ZI high), some (ZI r1), some (ZI (σ1 0 15)), some (ZI x4_13)] [] 41 σ_13
              refine zr_iload (pc := 115) hV dX12_number_115 rfl ?_
              have t17 := zx_g15 hσ_13
              exact zr_iret (pc := 117) hV dX12_number_117 rfl rfl ⟨_, rfl, (by omega), hσ_13, hFσ_13, (by omega)⟩
            · show V 108 [some (ZR 0), some (ZI high), some (ZI r1), some (ZI (σ1 0 15)), some (ZI x4_13)] [] 41 σ_13
              refine zr_aload_n (pc := 108) hV dX12_number_108 rfl rfl ?_
              refine zr_iload_n (pc := 109) hV dX12_number_109 rfl rfl ?_
              refine zr_putI (pc := 110) hV 15 dX12_number_110 fX12_200 rfl rfl rfl rfl (by decide) (fun σ110 eσ110 => ?_)
              have hσ110 : zx_T σ110 := zx_u15 eσ110 hσ_13 (by omega)
              have hFσ110 : ∀ a i : Int, (¬ (a = 0 ∧ i = 15)) → σ110 a i = σ a i := fun a i h => by rw [eσ110, zq_up_ne h]; exact hFσ_13 a i h
              refine zr_iconst (pc := 113) hV (-1) dX12_number_113 rfl ?_
              have t18 := zx_g15 hσ110
              have t19 : σ110 0 15 = σ1 0 15 := by rw [eσ110]; exact zq_up_same _ _ _ _
              exact zr_iret (pc := 114) hV dX12_number_114 rfl rfl ⟨_, rfl, ⟨by decide, by decide⟩, hσ110, hFσ110, (by omega)⟩
      refine zr_icmp_ge (pc := 21) hV 90 dX12_number_21 (by decide) (by omega) (by omega) (fun c20 => ?_) (fun c20 => ?_)
      · exact J90
      · show V 24 [some (ZR 0), some (ZI high), some (ZI r1), some (ZI (σ1 0 15)), some (ZI x4_13)] [] 41 σ_13
        refine zr_aload_n (pc := 24) hV dX12_number_24 rfl rfl ?_
        refine zr_getR (pc := 25) hV 13 10 dX12_number_25 fX12_47 rfl rfl rfl (by decide) (zx_g13 hσ_13) (by omega) ?_
        refine zr_aload_n (pc := 28) hV dX12_number_28 rfl rfl ?_
        refine zr_getI (pc := 29) hV 15 dX12_number_29 fX12_200 rfl rfl rfl (by decide) ?_
        have t21 := zx_g15 hσ_13
        refine zr_iald (pc := 32) hV dX12_number_32 rfl (by decide) rfl (by omega) ?_
        have t22 := zx_ga10 hσ_13 (σ_13 0 15)
        have t23 : σ_13 10 (σ_13 0 15) = σ 10 (σ_13 0 15) := hFσ_13 _ _ (by omega)
        refine zr_i2l (pc := 33) hV dX12_number_33 (by omega) ?_
        refine zr_ldc2 (pc := 34) (v := 48) hV 48 dX12_number_34 kX12_207 (by decide) ?_
        refine zr_ldc2 (pc := 37) (v := 57) hV 57 dX12_number_37 kX12_209 (by decide) ?_
        refine zr_callSp (pc := 40) hV [ZL (σ_13 10 (σ_13 0 15)), ZL 48, ZL 57] (st := []) (c_X12_in (σ := σ_13) (σ_13 10 (σ_13 0 15)) 48 57 (by omega) (by omega) (by omega)) dX12_number_40 mX12_170 (by decide) (Nat.le_of_ble_eq_true rfl) (Nat.le_refl _) (fun r40 hr40 pr40 => ?_)
        refine zr_if_eq (pc := 43) hV 90 dX12_number_43 (by decide) (by omega) (fun c24 => ?_) (fun c24 => ?_)
        · exact J90
        · show V 46 [some (ZR 0), some (ZI high), some (ZI r1), some (ZI (σ1 0 15)), some (ZI x4_13)] [] 41 σ_13
          refine zr_iload (pc := 46) hV dX12_number_46 rfl ?_
          refine zr_iload_n (pc := 48) hV dX12_number_48 rfl rfl ?_
          refine zr_icmp_le (pc := 49) hV 57 dX12_number_49 (by decide) (by omega) (by omega) (fun c25 => ?_) (fun c25 => ?_)
          · show V 57 [some (ZR 0), some (ZI high), some (ZI r1), some (ZI (σ1 0 15)), some (ZI x4_13)] [] 41 σ_13
            refine zr_bipush (pc := 57) hV 10 dX12_number_57 (by decide) ?_
            refine zr_iload (pc := 59) hV dX12_number_59 rfl ?_
            refine zr_imul (pc := 61) hV dX12_number_61 ?_
            refine zr_aload_n (pc := 62) hV dX12_number_62 rfl rfl ?_
            refine zr_getR (pc := 63) hV 13 10 dX12_number_63 fX12_47 rfl rfl rfl (by decide) (zx_g13 hσ_13) (by omega) ?_
            refine zr_aload_n (pc := 66) hV dX12_number_66 rfl rfl ?_
            refine zr_getI (pc := 67) hV 15 dX12_number_67 fX12_200 rfl rfl rfl (by decide) ?_
            have t26 := zx_g15 hσ_13
            refine zr_iald (pc := 70) hV dX12_number_70 rfl (by decide) rfl (by omega) ?_
            have t27 := zx_ga10 hσ_13 (σ_13 0 15)
            have t28 : σ_13 10 (σ_13 0 15) = σ 10 (σ_13 0 15) := hFσ_13 _ _ (by omega)
            refine zr_iadd (pc := 71) hV dX12_number_71 ?_
            refine zr_bipush (pc := 72) hV 48 dX12_number_72 (by decide) ?_
            refine zr_isub (pc := 74) hV dX12_number_74 ?_
            show V 75 [some (ZR 0), some (ZI high), some (ZI r1), some (ZI (σ1 0 15)), some (ZI x4_13)] [ZI (((10 * x4_13) + (σ_13 10 (σ_13 0 15))) - 48)] 41 σ_13
            refine zr_istore (pc := 75) hV [some (ZR 0), some (ZI high), some (ZI r1), some (ZI (σ1 0 15)), some (ZI (((10 * x4_13) + (σ_13 10 (σ_13 0 15))) - 48))] dX12_number_75 (by decide) rfl rfl ?_
            refine zr_aload_n (pc := 77) hV dX12_number_77 rfl rfl ?_
            refine zr_dup (pc := 78) hV dX12_number_78 (fun _ => rfl) ?_
            refine zr_getI (pc := 79) hV 15 dX12_number_79 fX12_200 rfl rfl rfl (by decide) ?_
            have t29 := zx_g15 hσ_13
            refine zr_iconst (pc := 82) hV 1 dX12_number_82 rfl ?_
            refine zr_iadd (pc := 83) hV dX12_number_83 ?_
            refine zr_putI (pc := 84) hV 15 dX12_number_84 fX12_200 rfl rfl rfl rfl (by decide) (fun σ84 eσ84 => ?_)
            have hσ84 : zx_T σ84 := zx_u15 eσ84 hσ_13 (by omega)
            have hFσ84 : ∀ a i : Int, (¬ (a = 0 ∧ i = 15)) → σ84 a i = σ a i := fun a i h => by rw [eσ84, zq_up_ne h]; exact hFσ_13 a i h
            refine zr_goto (pc := 87) hV 13 dX12_number_87 (by decide) ?_
            have t30 := zx_g15 hσ84
            have t31 : σ84 0 15 = (σ_13 0 15) + 1 := by rw [eσ84]; exact zq_up_same _ _ _ _
            have t32 := zx_g15 hσ84
            have t33 : σ84 0 15 = (σ_13 0 15) + 1 := by rw [eσ84]; exact zq_up_same _ _ _ _
            exact ih13 (((10 * x4_13) + (σ_13 10 (σ_13 0 15))) - 48) σ84 (by omega) hσ84 hFσ84 (by omega) (by omega) (by omega)
          · show V 52 [some (ZR 0), some (ZI high), some (ZI r1), some (ZI (σ1 0 15)), some (ZI x4_13)] [] 41 σ_13
            refine zr_iload (pc := 52) hV dX12_number_52 rfl ?_
            refine zr_goto (pc := 54) hV 75 dX12_number_54 (by decide) ?_
            show V 75 [some (ZR 0), some (ZI high), some (ZI r1), some (ZI (σ1 0 15)), some (ZI x4_13)] [ZI x4_13] 41 σ_13
            refine zr_istore (pc := 75) hV [some (ZR 0), some (ZI high), some (ZI r1), some (ZI (σ1 0 15)), some (ZI x4_13)] dX12_number_75 (by decide) rfl rfl ?_
            refine zr_aload_n (pc := 77) hV dX12_number_77 rfl rfl ?_
            refine zr_dup (pc := 78) hV dX12_number_78 (fun _ => rfl) ?_
            refine zr_getI (pc := 79) hV 15 dX12_number_79 fX12_200 rfl rfl rfl (by decide) ?_
            have t34 := zx_g15 hσ_13
            refine zr_iconst (pc := 82) hV 1 dX12_number_82 rfl ?_
            refine zr_iadd (pc := 83) hV dX12_number_83 ?_
            refine zr_putI (pc := 84) hV 15 dX12_number_84 fX12_200 rfl rfl rfl rfl (by decide) (fun σ84 eσ84 => ?_)
            have hσ84 : zx_T σ84 := zx_u15 eσ84 hσ_13 (by omega)
            have hFσ84 : ∀ a i : Int, (¬ (a = 0 ∧ i = 15)) → σ84 a i = σ a i := fun a i h => by rw [eσ84, zq_up_ne h]; exact hFσ_13 a i h
            refine zr_goto (pc := 87) hV 13 dX12_number_87 (by decide) ?_
            have t35 := zx_g15 hσ84
            have t36 : σ84 0 15 = (σ_13 0 15) + 1 := by rw [eσ84]; exact zq_up_same _ _ _ _
            have t37 := zx_g15 hσ84
            have t38 : σ84 0 15 = (σ_13 0 15) + 1 := by rw [eσ84]; exact zq_up_same _ _ _ _
            exact ih13 x4_13 σ84 (by omega) hσ84 hFσ84 (by omega) (by omega) (by omega)
  have t39 := zx_g15 hσ1
  have t40 := zx_g15 hσ1
  exact L13 (80 - σ1 0 15 + 1 : Int).toNat 0 σ1 (by omega) hσ1 hFσ1 (by omega) (by omega) (by omega)
set_option maxHeartbeats 800000 in
theorem c_X12_readName {σ : zq_S} (hσ : zx_T σ)  : zq_C zx_w yX12_readName cX12_readName 3 (some .int) 1 25 41 41 [ZR 0] σ (zq_pi (fun r τ => zx_T τ ∧ (∀ a i : Int, (¬ (a = 0 ∧ i = 15) ∧ ¬ (a = 0 ∧ i = 16)) → τ a i = σ a i) ∧ (True))) := by
  refine zq_C_of (by decide) (Nat.le_refl _) (Nat.le_of_ble_eq_true rfl) [some (ZR 0), none, none] rfl (fun V hV => ?_)
  have z14 := zx_g14 hσ
  show V 0 [some (ZR 0), none, none] [] 41 σ
  refine zr_aload_n (pc := 0) hV dX12_readName_0 rfl rfl ?_
  refine zr_callVi (pc := 1) hV [] (st := []) (c_X12_next (σ := σ) hσ ) dX12_readName_1 mX12_203 rfl (by decide) (by decide) (Nat.le_of_ble_eq_true rfl) (Nat.le_refl _) (fun r1 σ1 hr1 pσ1 => ?_)
  obtain ⟨hσ1, hfσ1, pσ1, wσ1⟩ := pσ1
  have hFσ1 : ∀ a i : Int, (¬ (a = 0 ∧ i = 15) ∧ ¬ (a = 0 ∧ i = 16)) → σ1 a i = σ a i := fun a i h => (hfσ1 a i h.1)
  have t1 := zx_g14 hσ
  have t2 := zx_g15 hσ
  have t3 := zx_g15 hσ1
  refine zr_istore_n (pc := 4) hV [some (ZR 0), some (ZI r1), none] dX12_readName_4 rfl (by decide) rfl rfl ?_
  refine zr_aload_n (pc := 5) hV dX12_readName_5 rfl rfl ?_
  refine zr_aload_n (pc := 6) hV dX12_readName_6 rfl rfl ?_
  refine zr_getI (pc := 7) hV 15 dX12_readName_7 fX12_200 rfl rfl rfl (by decide) ?_
  have t4 := zx_g15 hσ1
  refine zr_putI (pc := 10) hV 16 dX12_readName_10 fX12_211 rfl rfl rfl rfl (by decide) (fun σ10 eσ10 => ?_)
  have hσ10 : zx_T σ10 := zx_u16 eσ10 hσ1 (by omega)
  have hFσ10 : ∀ a i : Int, (¬ (a = 0 ∧ i = 15) ∧ ¬ (a = 0 ∧ i = 16)) → σ10 a i = σ a i := fun a i h => by rw [eσ10, zq_up_ne h.2]; exact hFσ1 a i h
  refine zr_iconst (pc := 13) hV 0 dX12_readName_13 rfl ?_
  refine zr_istore_n (pc := 14) hV [some (ZR 0), some (ZI r1), some (ZI 0)] dX12_readName_14 rfl (by decide) rfl rfl ?_
  have L15 : ∀ (fuel : Nat) (x1_15 : Int) (x2_15 : Int) (σ_15 : zq_S), ((-2147483648) ≤ x1_15 ∧ x1_15 ≤ 2147483647) → ((-2147483648) ≤ x2_15 ∧ x2_15 ≤ 2147483647) → (zx_T σ_15) → (∀ a i : Int, (¬ (a = 0 ∧ i = 15) ∧ ¬ (a = 0 ∧ i = 16)) → σ_15 a i = σ a i) → (0 ≤ x1_15 → σ_15 0 15 < σ 0 14) → 80 - σ_15 0 15 < (fuel : Int) → V 15 [some (ZR 0), some (ZI x1_15), some (ZI x2_15)] [] 41 σ_15 := by
    intro fuel
    induction fuel with
    | zero =>
      intro x1_15 x2_15 σ_15 hx1_15 hx2_15 hσ_15 hFσ_15 hi15_0 hm15
      have t5 := zx_g15 hσ_15
      exfalso; omega
    | succ fuel ih =>
      intro x1_15 x2_15 σ_15 hx1_15 hx2_15 hσ_15 hFσ_15 hi15_0 hm15
      have ih15 := ih
      show V 15 [some (ZR 0), some (ZI x1_15), some (ZI x2_15)] [] 41 σ_15
      refine zr_iload_n (pc := 15) hV dX12_readName_15 rfl rfl ?_
      refine zr_i2l (pc := 16) hV dX12_readName_16 (by omega) ?_
      refine zr_ldc2 (pc := 17) (v := 97) hV 97 dX12_readName_17 kX12_214 (by decide) ?_
      refine zr_ldc2 (pc := 20) (v := 122) hV 122 dX12_readName_20 kX12_216 (by decide) ?_
      refine zr_callSp (pc := 23) hV [ZL x1_15, ZL 97, ZL 122] (st := []) (c_X12_in (σ := σ_15) x1_15 97 122 (by omega) (by omega) (by omega)) dX12_readName_23 mX12_170 (by decide) (Nat.le_of_ble_eq_true rfl) (Nat.le_refl _) (fun r23 hr23 pr23 => ?_)
      refine zr_if_eq (pc := 26) hV 92 dX12_readName_26 (by decide) (by omega) (fun c6 => ?_) (fun c6 => ?_)
      · show V 92 [some (ZR 0), some (ZI x1_15), some (ZI x2_15)] [] 41 σ_15
        refine zr_iload_n (pc := 92) hV dX12_readName_92 rfl rfl ?_
        exact zr_iret (pc := 93) hV dX12_readName_93 rfl rfl ⟨_, rfl, (by omega), hσ_15, hFσ_15, trivial⟩
      · show V 29 [some (ZR 0), some (ZI x1_15), some (ZI x2_15)] [] 41 σ_15
        refine zr_aload_n (pc := 29) hV dX12_readName_29 rfl rfl ?_
        refine zr_getI (pc := 30) hV 15 dX12_readName_30 fX12_200 rfl rfl rfl (by decide) ?_
        have t7 := zx_g15 hσ_15
        refine zr_aload_n (pc := 33) hV dX12_readName_33 rfl rfl ?_
        refine zr_getI (pc := 34) hV 16 dX12_readName_34 fX12_211 rfl rfl rfl (by decide) ?_
        have t8 := zx_g16 hσ_15
        refine zr_iconst (pc := 37) hV 3 dX12_readName_37 rfl ?_
        refine zr_iadd (pc := 38) hV dX12_readName_38 ?_
        refine zr_icmp_ge (pc := 39) hV 92 dX12_readName_39 (by decide) (by omega) (by omega) (fun c9 => ?_) (fun c9 => ?_)
        · show V 92 [some (ZR 0), some (ZI x1_15), some (ZI x2_15)] [] 41 σ_15
          refine zr_iload_n (pc := 92) hV dX12_readName_92 rfl rfl ?_
          exact zr_iret (pc := 93) hV dX12_readName_93 rfl rfl ⟨_, rfl, (by omega), hσ_15, hFσ_15, trivial⟩
        · show V 42 [some (ZR 0), some (ZI x1_15), some (ZI x2_15)] [] 41 σ_15
          refine zr_bipush (pc := 42) hV 27 dX12_readName_42 (by decide) ?_
          refine zr_iload_n (pc := 44) hV dX12_readName_44 rfl rfl ?_
          refine zr_imul (pc := 45) hV dX12_readName_45 ?_
          refine zr_any (pc := 46) hV (fun y46 hy46 _ => ?_)
          refine zr_iload_n (pc := 46) hV dX12_readName_46 rfl rfl ?_
          refine zr_iadd (pc := 47) hV dX12_readName_47 ?_
          refine zr_any (pc := 48) hV (fun y48 hy48 _ => ?_)
          refine zr_bipush (pc := 48) hV 97 dX12_readName_48 (by decide) ?_
          refine zr_isub (pc := 50) hV dX12_readName_50 ?_
          refine zr_any (pc := 51) hV (fun y51 hy51 _ => ?_)
          refine zr_iconst (pc := 51) hV 1 dX12_readName_51 rfl ?_
          refine zr_iadd (pc := 52) hV dX12_readName_52 ?_
          refine zr_any (pc := 53) hV (fun y53 hy53 _ => ?_)
          refine zr_istore_n (pc := 53) hV [some (ZR 0), some (ZI x1_15), some (ZI y53)] dX12_readName_53 rfl (by decide) rfl rfl ?_
          refine zr_aload_n (pc := 54) hV dX12_readName_54 rfl rfl ?_
          refine zr_dup (pc := 55) hV dX12_readName_55 (fun _ => rfl) ?_
          refine zr_getI (pc := 56) hV 15 dX12_readName_56 fX12_200 rfl rfl rfl (by decide) ?_
          have t10 := zx_g15 hσ_15
          refine zr_iconst (pc := 59) hV 1 dX12_readName_59 rfl ?_
          refine zr_iadd (pc := 60) hV dX12_readName_60 ?_
          refine zr_putI (pc := 61) hV 15 dX12_readName_61 fX12_200 rfl rfl rfl rfl (by decide) (fun σ61 eσ61 => ?_)
          have hσ61 : zx_T σ61 := zx_u15 eσ61 hσ_15 (by omega)
          have hFσ61 : ∀ a i : Int, (¬ (a = 0 ∧ i = 15) ∧ ¬ (a = 0 ∧ i = 16)) → σ61 a i = σ a i := fun a i h => by rw [eσ61, zq_up_ne h.1]; exact hFσ_15 a i h
          refine zr_aload_n (pc := 64) hV dX12_readName_64 rfl rfl ?_
          refine zr_getI (pc := 65) hV 15 dX12_readName_65 fX12_200 rfl rfl rfl (by decide) ?_
          have t11 := zx_g15 hσ61
          have t12 : σ61 0 15 = (σ_15 0 15) + 1 := by rw [eσ61]; exact zq_up_same _ _ _ _
          refine zr_aload_n (pc := 68) hV dX12_readName_68 rfl rfl ?_
          refine zr_getI (pc := 69) hV 14 dX12_readName_69 fX12_197 rfl rfl rfl (by decide) ?_
          have t13 := zx_g14 hσ61
          have t14 : σ61 0 14 = σ_15 0 14 := by rw [eσ61]; exact zq_up_ne (by omega)
          have t15 : σ_15 0 14 = σ 0 14 := hFσ_15 _ _ (by omega)
          refine zr_icmp_ge (pc := 72) hV 87 dX12_readName_72 (by decide) (by omega) (by omega) (fun c16 => ?_) (fun c16 => ?_)
          · show V 87 [some (ZR 0), some (ZI x1_15), some (ZI y53)] [] 41 σ61
            refine zr_iconst (pc := 87) hV (-1) dX12_readName_87 rfl ?_
            show V 88 [some (ZR 0), some (ZI x1_15), some (ZI y53)] [ZI (-1)] 41 σ61
            refine zr_istore_n (pc := 88) hV [some (ZR 0), some (ZI (-1)), some (ZI y53)] dX12_readName_88 rfl (by decide) rfl rfl ?_
            refine zr_goto (pc := 89) hV 15 dX12_readName_89 (by decide) ?_
            have t17 := zx_g15 hσ61
            have t18 : σ61 0 15 = (σ_15 0 15) + 1 := by rw [eσ61]; exact zq_up_same _ _ _ _
            have t19 := zx_g15 hσ61
            have t20 : σ61 0 15 = (σ_15 0 15) + 1 := by rw [eσ61]; exact zq_up_same _ _ _ _
            exact ih15 (-1) y53 σ61 (by omega) (by omega) hσ61 hFσ61 (by omega) (by omega)
          · show V 75 [some (ZR 0), some (ZI x1_15), some (ZI y53)] [] 41 σ61
            refine zr_aload_n (pc := 75) hV dX12_readName_75 rfl rfl ?_
            refine zr_getR (pc := 76) hV 13 10 dX12_readName_76 fX12_47 rfl rfl rfl (by decide) (zx_g13 hσ61) (by omega) ?_
            refine zr_aload_n (pc := 79) hV dX12_readName_79 rfl rfl ?_
            refine zr_getI (pc := 80) hV 15 dX12_readName_80 fX12_200 rfl rfl rfl (by decide) ?_
            have t21 := zx_g15 hσ61
            have t22 : σ61 0 15 = (σ_15 0 15) + 1 := by rw [eσ61]; exact zq_up_same _ _ _ _
            refine zr_iald (pc := 83) hV dX12_readName_83 rfl (by decide) rfl (by omega) ?_
            have t23 := zx_ga10 hσ61 (σ61 0 15)
            have t24 : σ61 10 (σ61 0 15) = σ_15 10 (σ61 0 15) := by rw [eσ61]; exact zq_up_ne (by omega)
            have t25 : σ_15 10 (σ61 0 15) = σ 10 (σ61 0 15) := hFσ_15 _ _ (by omega)
            refine zr_goto (pc := 84) hV 88 dX12_readName_84 (by decide) ?_
            show V 88 [some (ZR 0), some (ZI x1_15), some (ZI y53)] [ZI (σ61 10 (σ61 0 15))] 41 σ61
            refine zr_istore_n (pc := 88) hV [some (ZR 0), some (ZI (σ61 10 (σ61 0 15))), some (ZI y53)] dX12_readName_88 rfl (by decide) rfl rfl ?_
            refine zr_goto (pc := 89) hV 15 dX12_readName_89 (by decide) ?_
            have t26 := zx_g15 hσ61
            have t27 : σ61 0 15 = (σ_15 0 15) + 1 := by rw [eσ61]; exact zq_up_same _ _ _ _
            have t28 := zx_g15 hσ61
            have t29 : σ61 0 15 = (σ_15 0 15) + 1 := by rw [eσ61]; exact zq_up_same _ _ _ _
            exact ih15 (σ61 10 (σ61 0 15)) y53 σ61 (by omega) (by omega) hσ61 hFσ61 (by omega) (by omega)
  have t30 := zx_g15 hσ10
  have t31 : σ10 0 15 = σ1 0 15 := by rw [eσ10]; exact zq_up_ne (by omega)
  have t32 := zx_g15 hσ10
  have t33 : σ10 0 15 = σ1 0 15 := by rw [eσ10]; exact zq_up_ne (by omega)
  exact L15 (80 - σ10 0 15 + 1 : Int).toNat r1 0 σ10 (by omega) (by omega) hσ10 hFσ10 (by omega) (by omega)
set_option maxHeartbeats 800000 in
theorem c_X12_named {σ : zq_S} (hσ : zx_T σ) (name : Int) (q0 : zq_in name) : zq_C zx_w yX12_named cX12_named 3 (some .int) 0 0 41 41 [ZR 0, ZI name] σ (zq_pp σ (fun r => -4 ≤ r ∧ r < 20 ∧ (0 ≤ r → r < σ 0 3))) := by
  refine zq_C_of (by decide) (Nat.le_refl _) (Nat.le_of_ble_eq_true rfl) [some (ZR 0), some (ZI name), none] rfl (fun V hV => ?_)
  show V 0 [some (ZR 0), some (ZI name), none] [] 41 σ
  refine zr_iconst (pc := 0) hV 0 dX12_named_0 rfl ?_
  refine zr_istore_n (pc := 1) hV [some (ZR 0), some (ZI name), some (ZI 0)] dX12_named_1 rfl (by decide) rfl rfl ?_
  have L2 : ∀ (fuel : Nat) (x2_2 : Int), (0 ≤ x2_2 ∧ x2_2 ≤ 20) → 20 - x2_2 < (fuel : Int) → V 2 [some (ZR 0), some (ZI name), some (ZI x2_2)] [] 41 σ := by
    intro fuel
    induction fuel with
    | zero =>
      intro x2_2 hx2_2 hm2
      exfalso; omega
    | succ fuel ih =>
      intro x2_2 hx2_2 hm2
      have ih2 := ih
      show V 2 [some (ZR 0), some (ZI name), some (ZI x2_2)] [] 41 σ
      refine zr_iload_n (pc := 2) hV dX12_named_2 rfl rfl ?_
      refine zr_aload_n (pc := 3) hV dX12_named_3 rfl rfl ?_
      refine zr_getI (pc := 4) hV 3 dX12_named_4 fX12_150 rfl rfl rfl (by decide) ?_
      have t1 := zx_g3 hσ
      refine zr_icmp_ge (pc := 7) hV 28 dX12_named_7 (by decide) (by omega) (by omega) (fun c2 => ?_) (fun c2 => ?_)
      · show V 28 [some (ZR 0), some (ZI name), some (ZI x2_2)] [] 41 σ
        refine zr_bipush (pc := 28) hV (-4) dX12_named_28 (by decide) ?_
        exact zr_iret (pc := 30) hV dX12_named_30 rfl rfl ⟨rfl, _, rfl, ⟨by decide, by decide⟩, (by omega)⟩
      · show V 10 [some (ZR 0), some (ZI name), some (ZI x2_2)] [] 41 σ
        refine zr_aload_n (pc := 10) hV dX12_named_10 rfl rfl ?_
        refine zr_getR (pc := 11) hV 4 1 dX12_named_11 fX12_19 rfl rfl rfl (by decide) (zx_g4 hσ) (by omega) ?_
        refine zr_iload_n (pc := 14) hV dX12_named_14 rfl rfl ?_
        refine zr_iald (pc := 15) hV dX12_named_15 rfl (by decide) rfl (by omega) ?_
        have t3 := zx_ga1 hσ x2_2
        refine zr_iload_n (pc := 16) hV dX12_named_16 rfl rfl ?_
        refine zr_icmp_ne (pc := 17) hV 22 dX12_named_17 (by decide) (by omega) (by omega) (fun c4 => ?_) (fun c4 => ?_)
        · show V 22 [some (ZR 0), some (ZI name), some (ZI x2_2)] [] 41 σ
          refine zr_iinc (pc := 22) hV [some (ZR 0), some (ZI name), some (ZI (x2_2 + 1))] (x2_2 + 1) dX12_named_22 rfl rfl (by decide) rfl rfl ?_
          refine zr_goto (pc := 25) hV 2 dX12_named_25 (by decide) ?_
          exact ih2 (x2_2 + 1) (by omega) (by omega)
        · show V 20 [some (ZR 0), some (ZI name), some (ZI x2_2)] [] 41 σ
          refine zr_iload_n (pc := 20) hV dX12_named_20 rfl rfl ?_
          exact zr_iret (pc := 21) hV dX12_named_21 rfl rfl ⟨rfl, _, rfl, (by omega), (by omega)⟩
  exact L2 (20 - (0 : Int) + 1 : Int).toNat 0 (by omega) (by omega)
set_option maxHeartbeats 800000 in
theorem c_X12_readNewName {σ : zq_S} (hσ : zx_T σ)  : zq_C zx_w yX12_readNewName cX12_readNewName 2 (some .int) 2 47 41 41 [ZR 0] σ (zq_pi (fun r τ => zx_T τ ∧ (∀ a i : Int, (¬ (a = 0 ∧ i = 15) ∧ ¬ (a = 0 ∧ i = 16)) → τ a i = σ a i) ∧ (True))) := by
  refine zq_C_of (by decide) (Nat.le_refl _) (Nat.le_of_ble_eq_true rfl) [some (ZR 0), none] rfl (fun V hV => ?_)
  show V 0 [some (ZR 0), none] [] 41 σ
  refine zr_aload_n (pc := 0) hV dX12_readNewName_0 rfl rfl ?_
  refine zr_callVi (pc := 1) hV [] (st := []) (c_X12_readName (σ := σ) hσ ) dX12_readNewName_1 mX12_218 rfl (by decide) (by decide) (Nat.le_of_ble_eq_true rfl) (Nat.le_refl _) (fun r1 σ1 hr1 pσ1 => ?_)
  obtain ⟨hσ1, hfσ1, pσ1⟩ := pσ1
  have hFσ1 : ∀ a i : Int, (¬ (a = 0 ∧ i = 15) ∧ ¬ (a = 0 ∧ i = 16)) → σ1 a i = σ a i := fun a i h => (hfσ1 a i ⟨h.1, h.2⟩)
  refine zr_istore_n (pc := 4) hV [some (ZR 0), some (ZI r1)] dX12_readNewName_4 rfl (by decide) rfl rfl ?_
  refine zr_iload_n (pc := 5) hV dX12_readNewName_5 rfl rfl ?_
  refine zr_if_eq (pc := 6) hV 27 dX12_readNewName_6 (by decide) (by omega) (fun c1 => ?_) (fun c1 => ?_)
  · show V 27 [some (ZR 0), some (ZI r1)] [] 41 σ1
    refine zr_iload_n (pc := 27) hV dX12_readNewName_27 rfl rfl ?_
    exact zr_iret (pc := 28) hV dX12_readNewName_28 rfl rfl ⟨_, rfl, (by omega), hσ1, hFσ1, trivial⟩
  · show V 9 [some (ZR 0), some (ZI r1)] [] 41 σ1
    refine zr_aload_n (pc := 9) hV dX12_readNewName_9 rfl rfl ?_
    refine zr_iload_n (pc := 10) hV dX12_readNewName_10 rfl rfl ?_
    refine zr_callVp (pc := 11) hV [ZI r1] (st := []) (c_X12_named (σ := σ1) hσ1 r1 (by omega)) dX12_readNewName_11 mX12_221 rfl (by decide) (by decide) (Nat.le_of_ble_eq_true rfl) (Nat.le_refl _) (fun r11 hr11 pr11 => ?_)
    have t2 := zx_g3 hσ1
    have t3 : σ1 0 3 = σ 0 3 := hfσ1 _ _ (by omega)
    refine zr_if_lt (pc := 14) hV 27 dX12_readNewName_14 (by decide) (by omega) (fun c4 => ?_) (fun c4 => ?_)
    · show V 27 [some (ZR 0), some (ZI r1)] [] 41 σ1
      refine zr_iload_n (pc := 27) hV dX12_readNewName_27 rfl rfl ?_
      exact zr_iret (pc := 28) hV dX12_readNewName_28 rfl rfl ⟨_, rfl, (by omega), hσ1, hFσ1, trivial⟩
    · show V 17 [some (ZR 0), some (ZI r1)] [] 41 σ1
      refine zr_aload_n (pc := 17) hV dX12_readNewName_17 rfl rfl ?_
      refine zr_aload_n (pc := 18) hV dX12_readNewName_18 rfl rfl ?_
      refine zr_getI (pc := 19) hV 16 dX12_readNewName_19 fX12_211 rfl rfl rfl (by decide) ?_
      have t5 := zx_g16 hσ1
      refine zr_putI (pc := 22) hV 15 dX12_readNewName_22 fX12_200 rfl rfl rfl rfl (by decide) (fun σ22 eσ22 => ?_)
      have hσ22 : zx_T σ22 := zx_u15 eσ22 hσ1 (by omega)
      have hFσ22 : ∀ a i : Int, (¬ (a = 0 ∧ i = 15) ∧ ¬ (a = 0 ∧ i = 16)) → σ22 a i = σ a i := fun a i h => by rw [eσ22, zq_up_ne h.1]; exact hFσ1 a i h
      refine zr_iconst (pc := 25) hV 0 dX12_readNewName_25 rfl ?_
      exact zr_iret (pc := 26) hV dX12_readNewName_26 rfl rfl ⟨_, rfl, ⟨by decide, by decide⟩, hσ22, hFσ22, trivial⟩
set_option maxHeartbeats 800000 in
theorem c_X12_fieldLetter {σ : zq_S} (c : Int) (q0 : zq_in c) : zq_C zx_w yX12_fieldLetter cX12_fieldLetter 1 (some .int) 0 0 41 41 [ZI c] σ (zq_pp σ (fun r => -1 ≤ r ∧ r ≤ 3 ∧ (0 ≤ r → 0 ≤ c) ∧ (r = 3 → c = 105))) := by
  refine zq_C_of (by decide) (Nat.le_refl _) (Nat.le_of_ble_eq_true rfl) [some (ZI c)] rfl (fun V hV => ?_)
  show V 0 [some (ZI c)] [] 41 σ
  refine zr_iload_n (pc := 0) hV dX12_fieldLetter_0 rfl rfl ?_
  refine zr_bipush (pc := 1) hV 100 dX12_fieldLetter_1 (by decide) ?_
  refine zr_icmp_ne (pc := 3) hV 10 dX12_fieldLetter_3 (by decide) (by omega) ⟨by decide, by decide⟩ (fun c1 => ?_) (fun c1 => ?_)
  · show V 10 [some (ZI c)] [] 41 σ
    refine zr_iload_n (pc := 10) hV dX12_fieldLetter_10 rfl rfl ?_
    refine zr_bipush (pc := 11) hV 115 dX12_fieldLetter_11 (by decide) ?_
    refine zr_icmp_ne (pc := 13) hV 20 dX12_fieldLetter_13 (by decide) (by omega) ⟨by decide, by decide⟩ (fun c2 => ?_) (fun c2 => ?_)
    · show V 20 [some (ZI c)] [] 41 σ
      refine zr_iload_n (pc := 20) hV dX12_fieldLetter_20 rfl rfl ?_
      refine zr_bipush (pc := 21) hV 116 dX12_fieldLetter_21 (by decide) ?_
      refine zr_icmp_ne (pc := 23) hV 30 dX12_fieldLetter_23 (by decide) (by omega) ⟨by decide, by decide⟩ (fun c3 => ?_) (fun c3 => ?_)
      · show V 30 [some (ZI c)] [] 41 σ
        refine zr_iload_n (pc := 30) hV dX12_fieldLetter_30 rfl rfl ?_
        refine zr_bipush (pc := 31) hV 105 dX12_fieldLetter_31 (by decide) ?_
        refine zr_icmp_ne (pc := 33) hV 40 dX12_fieldLetter_33 (by decide) (by omega) ⟨by decide, by decide⟩ (fun c4 => ?_) (fun c4 => ?_)
        · show V 40 [some (ZI c)] [] 41 σ
          refine zr_iconst (pc := 40) hV (-1) dX12_fieldLetter_40 rfl ?_
          show V 41 [some (ZI c)] [ZI (-1)] 41 σ
          exact zr_iret (pc := 41) hV dX12_fieldLetter_41 rfl rfl ⟨rfl, _, rfl, ⟨by decide, by decide⟩, (by omega)⟩
        · show V 36 [some (ZI c)] [] 41 σ
          refine zr_iconst (pc := 36) hV 3 dX12_fieldLetter_36 rfl ?_
          refine zr_goto (pc := 37) hV 41 dX12_fieldLetter_37 (by decide) ?_
          show V 41 [some (ZI c)] [ZI 3] 41 σ
          exact zr_iret (pc := 41) hV dX12_fieldLetter_41 rfl rfl ⟨rfl, _, rfl, ⟨by decide, by decide⟩, (by omega)⟩
      · show V 26 [some (ZI c)] [] 41 σ
        refine zr_iconst (pc := 26) hV 2 dX12_fieldLetter_26 rfl ?_
        refine zr_goto (pc := 27) hV 41 dX12_fieldLetter_27 (by decide) ?_
        show V 41 [some (ZI c)] [ZI 2] 41 σ
        exact zr_iret (pc := 41) hV dX12_fieldLetter_41 rfl rfl ⟨rfl, _, rfl, ⟨by decide, by decide⟩, (by omega)⟩
    · show V 16 [some (ZI c)] [] 41 σ
      refine zr_iconst (pc := 16) hV 1 dX12_fieldLetter_16 rfl ?_
      refine zr_goto (pc := 17) hV 41 dX12_fieldLetter_17 (by decide) ?_
      show V 41 [some (ZI c)] [ZI 1] 41 σ
      exact zr_iret (pc := 41) hV dX12_fieldLetter_41 rfl rfl ⟨rfl, _, rfl, ⟨by decide, by decide⟩, (by omega)⟩
  · show V 6 [some (ZI c)] [] 41 σ
    refine zr_iconst (pc := 6) hV 0 dX12_fieldLetter_6 rfl ?_
    refine zr_goto (pc := 7) hV 41 dX12_fieldLetter_7 (by decide) ?_
    show V 41 [some (ZI c)] [ZI 0] 41 σ
    exact zr_iret (pc := 41) hV dX12_fieldLetter_41 rfl rfl ⟨rfl, _, rfl, ⟨by decide, by decide⟩, (by omega)⟩
set_option maxHeartbeats 800000 in
theorem c_X12_readLook {σ : zq_S} (hσ : zx_T σ) (o : Int) (q0 : 0 ≤ o ∧ o ≤ 20) : zq_C zx_w yX12_readLook cX12_readLook 5 (some .boolean) 1 24 41 41 [ZR 0, ZI o] σ (zq_pi (fun r τ => zx_T τ ∧ (∀ a i : Int, (¬ (a = 0 ∧ i = 15) ∧ ¬ (a = 2 ∧ 12 * o ≤ i ∧ i < 12 * o + 12)) → τ a i = σ a i) ∧ ((r = 0 ∨ r = 1)) ∧ zq_hid (r = 1 → zx_B τ o))) := by
  refine zq_C_of (by decide) (Nat.le_refl _) (Nat.le_of_ble_eq_true rfl) [some (ZR 0), some (ZI o), none, none, none] rfl (fun V hV => ?_)
  have z14 := zx_g14 hσ
  show V 0 [some (ZR 0), some (ZI o), none, none, none] [] 41 σ
  refine zr_iconst (pc := 0) hV 0 dX12_readLook_0 rfl ?_
  refine zr_istore_n (pc := 1) hV [some (ZR 0), some (ZI o), some (ZI 0), none, none] dX12_readLook_1 rfl (by decide) rfl rfl ?_
  have L2 : ∀ (fuel : Nat) (x2_2 : Int) (σ_2 : zq_S), (0 ≤ x2_2 ∧ x2_2 ≤ 12) → (zx_T σ_2) → (∀ a i : Int, (¬ (a = 0 ∧ i = 15) ∧ ¬ (a = 2 ∧ 12 * o ≤ i ∧ i < 12 * o + 12)) → σ_2 a i = σ a i) → 12 - x2_2 < (fuel : Int) → V 2 [some (ZR 0), some (ZI o), some (ZI x2_2), none, none] [] 41 σ_2 := by
    intro fuel
    induction fuel with
    | zero =>
      intro x2_2 σ_2 hx2_2 hσ_2 hFσ_2 hm2
      exfalso; omega
    | succ fuel ih =>
      intro x2_2 σ_2 hx2_2 hσ_2 hFσ_2 hm2
      have ih2 := ih
      show V 2 [some (ZR 0), some (ZI o), some (ZI x2_2), none, none] [] 41 σ_2
      refine zr_iload_n (pc := 2) hV dX12_readLook_2 rfl rfl ?_
      refine zr_aload_n (pc := 3) hV dX12_readLook_3 rfl rfl ?_
      refine zr_getI (pc := 4) hV 2 dX12_readLook_4 fX12_16 rfl rfl rfl (by decide) ?_
      have t1 := zx_g2 hσ_2
      have t2 : σ_2 0 2 = σ 0 2 := hFσ_2 _ _ (by omega)
      refine zr_icmp_ge (pc := 7) hV 90 dX12_readLook_7 (by decide) (by omega) (by omega) (fun c3 => ?_) (fun c3 => ?_)
      · show V 90 [some (ZR 0), some (ZI o), some (ZI x2_2), none, none] [] 41 σ_2
        refine zr_aload_n (pc := 90) hV dX12_readLook_90 rfl rfl ?_
        refine zr_iload_n (pc := 91) hV dX12_readLook_91 rfl rfl ?_
        refine zr_iconst (pc := 92) hV 3 dX12_readLook_92 rfl ?_
        refine zr_callVp (pc := 93) hV [ZI o, ZI 3] (st := []) (c_X12_fieldBits (σ := σ_2) hσ_2 o 3 (by omega) (by omega)) dX12_readLook_93 mX12_184 rfl (by decide) (by decide) (Nat.le_of_ble_eq_true rfl) (Nat.le_refl _) (fun r93 hr93 pr93 => ?_)
        have t4 := zx_g2 hσ_2
        have t5 : σ_2 0 2 = σ 0 2 := hFσ_2 _ _ (by omega)
        refine zr_aload_n (pc := 96) hV dX12_readLook_96 rfl rfl ?_
        refine zr_getI (pc := 97) hV 0 dX12_readLook_97 fX12_7 rfl rfl rfl (by decide) ?_
        have t6 := zx_g0 hσ_2
        have t7 : σ_2 0 0 = σ 0 0 := hFσ_2 _ _ (by omega)
        refine zr_icmp_gt (pc := 100) hV 107 dX12_readLook_100 (by decide) (by omega) (by omega) (fun c8 => ?_) (fun c8 => ?_)
        · show V 107 [some (ZR 0), some (ZI o), some (ZI x2_2), none, none] [] 41 σ_2
          refine zr_iconst (pc := 107) hV 0 dX12_readLook_107 rfl ?_
          show V 108 [some (ZR 0), some (ZI o), some (ZI x2_2), none, none] [ZI 0] 41 σ_2
          refine zr_istore_n (pc := 108) hV [some (ZR 0), some (ZI o), some (ZI 0), none, none] dX12_readLook_108 rfl (by decide) rfl rfl ?_
          refine zr_iconst (pc := 109) hV 0 dX12_readLook_109 rfl ?_
          refine zr_istore_n (pc := 110) hV [some (ZR 0), some (ZI o), some (ZI 0), some (ZI 0), none] dX12_readLook_110 rfl (by decide) rfl rfl ?_
          have L111 : ∀ (fuel : Nat) (x2_111 : Int) (x3_111 : Int), (0 ≤ x2_111 ∧ x2_111 ≤ 1) → (0 ≤ x3_111 ∧ x3_111 ≤ 3) → (x2_111 = 1 → zx_cnt σ_2 o 3 (σ_2 0 2) ≤ 8) → (x2_111 = 1 → 1 ≤ x3_111 → zx_cnt σ_2 o 0 (σ_2 0 2) ≤ 3) → (x2_111 = 1 → 2 ≤ x3_111 → zx_cnt σ_2 o 1 (σ_2 0 2) ≤ 3) → (x2_111 = 1 → 3 ≤ x3_111 → zx_cnt σ_2 o 2 (σ_2 0 2) ≤ 3) → 3 - x3_111 < (fuel : Int) → V 111 [some (ZR 0), some (ZI o), some (ZI x2_111), some (ZI x3_111), none] [] 41 σ_2 := by
            intro fuel
            induction fuel with
            | zero =>
              intro x2_111 x3_111 hx2_111 hx3_111 hi111_0 hi111_1 hi111_2 hi111_3 hm111
              exfalso; omega
            | succ fuel ih =>
              intro x2_111 x3_111 hx2_111 hx3_111 hi111_0 hi111_1 hi111_2 hi111_3 hm111
              have ih111 := ih
              show V 111 [some (ZR 0), some (ZI o), some (ZI x2_111), some (ZI x3_111), none] [] 41 σ_2
              refine zr_iload_n (pc := 111) hV dX12_readLook_111 rfl rfl ?_
              refine zr_iconst (pc := 112) hV 3 dX12_readLook_112 rfl ?_
              refine zr_icmp_ge (pc := 113) hV 154 dX12_readLook_113 (by decide) (by omega) ⟨by decide, by decide⟩ (fun c9 => ?_) (fun c9 => ?_)
              · show V 154 [some (ZR 0), some (ZI o), some (ZI x2_111), some (ZI x3_111), none] [] 41 σ_2
                refine zr_aload_n (pc := 154) hV dX12_readLook_154 rfl rfl ?_
                refine zr_callVi (pc := 155) hV [] (st := []) (c_X12_next (σ := σ_2) hσ_2 ) dX12_readLook_155 mX12_203 rfl (by decide) (by decide) (Nat.le_of_ble_eq_true rfl) (Nat.le_refl _) (fun r155 σ155 hr155 pσ155 => ?_)
                obtain ⟨hσ155, hfσ155, pσ155, wσ155⟩ := pσ155
                have hFσ155 : ∀ a i : Int, (¬ (a = 0 ∧ i = 15) ∧ ¬ (a = 2 ∧ 12 * o ≤ i ∧ i < 12 * o + 12)) → σ155 a i = σ a i := fun a i h => (hfσ155 a i h.1).trans (hFσ_2 a i h)
                have t10 := zx_g14 hσ_2
                have t11 : σ_2 0 14 = σ 0 14 := hFσ_2 _ _ (by omega)
                have t12 := zx_g15 hσ_2
                have t13 := zx_g15 hσ155
                refine zr_istore_n (pc := 158) hV [some (ZR 0), some (ZI o), some (ZI x2_111), some (ZI r155), none] dX12_readLook_158 rfl (by decide) rfl rfl ?_
                refine zr_iload_n (pc := 159) hV dX12_readLook_159 rfl rfl ?_
                refine zr_if_eq (pc := 160) hV 173 dX12_readLook_160 (by decide) (by omega) (fun c14 => ?_) (fun c14 => ?_)
                · show V 173 [some (ZR 0), some (ZI o), some (ZI x2_111), some (ZI r155), none] [] 41 σ155
                  refine zr_iconst (pc := 173) hV 0 dX12_readLook_173 rfl ?_
                  show V 174 [some (ZR 0), some (ZI o), some (ZI x2_111), some (ZI r155), none] [ZI 0] 41 σ155
                  exact zr_zret (pc := 174) hV dX12_readLook_174 rfl rfl (by omega) ⟨_, rfl, ⟨by decide, by decide⟩, hσ155, hFσ155, (by omega), (show (0 : Int) = 1 → zx_B σ155 o from (fun h => absurd h (by omega)))⟩
                · show V 163 [some (ZR 0), some (ZI o), some (ZI x2_111), some (ZI r155), none] [] 41 σ155
                  refine zr_iload_n (pc := 163) hV dX12_readLook_163 rfl rfl ?_
                  refine zr_bipush (pc := 164) hV 58 dX12_readLook_164 (by decide) ?_
                  refine zr_icmp_ne (pc := 166) hV 173 dX12_readLook_166 (by decide) (by omega) ⟨by decide, by decide⟩ (fun c15 => ?_) (fun c15 => ?_)
                  · show V 173 [some (ZR 0), some (ZI o), some (ZI x2_111), some (ZI r155), none] [] 41 σ155
                    refine zr_iconst (pc := 173) hV 0 dX12_readLook_173 rfl ?_
                    show V 174 [some (ZR 0), some (ZI o), some (ZI x2_111), some (ZI r155), none] [ZI 0] 41 σ155
                    exact zr_zret (pc := 174) hV dX12_readLook_174 rfl rfl (by omega) ⟨_, rfl, ⟨by decide, by decide⟩, hσ155, hFσ155, (by omega), (show (0 : Int) = 1 → zx_B σ155 o from (fun h => absurd h (by omega)))⟩
                  · show V 169 [some (ZR 0), some (ZI o), some (ZI x2_111), some (ZI r155), none] [] 41 σ155
                    refine zr_iconst (pc := 169) hV 1 dX12_readLook_169 rfl ?_
                    refine zr_goto (pc := 170) hV 174 dX12_readLook_170 (by decide) ?_
                    show V 174 [some (ZR 0), some (ZI o), some (ZI x2_111), some (ZI r155), none] [ZI 1] 41 σ155
                    exact zr_zret (pc := 174) hV dX12_readLook_174 rfl rfl (by omega) ⟨_, rfl, ⟨by decide, by decide⟩, hσ155, hFσ155, (by omega), (show (1 : Int) = 1 → zx_B σ155 o from (fun _ => zx_B_fr (fun i => hfσ155 2 i (by omega)) (hfσ155 0 2 (by omega)) ⟨by omega, by omega, by omega, by omega⟩))⟩
              · show V 116 [some (ZR 0), some (ZI o), some (ZI x2_111), some (ZI x3_111), none] [] 41 σ_2
                refine zr_aload_n (pc := 116) hV dX12_readLook_116 rfl rfl ?_
                refine zr_iload_n (pc := 117) hV dX12_readLook_117 rfl rfl ?_
                refine zr_iload_n (pc := 118) hV dX12_readLook_118 rfl rfl ?_
                refine zr_callVp (pc := 119) hV [ZI o, ZI x3_111] (st := []) (c_X12_fieldBits (σ := σ_2) hσ_2 o x3_111 (by omega) (by omega)) dX12_readLook_119 mX12_184 rfl (by decide) (by decide) (Nat.le_of_ble_eq_true rfl) (Nat.le_refl _) (fun r119 hr119 pr119 => ?_)
                have t16 := zx_g2 hσ_2
                have t17 : σ_2 0 2 = σ 0 2 := hFσ_2 _ _ (by omega)
                refine zr_istore (pc := 122) hV [some (ZR 0), some (ZI o), some (ZI x2_111), some (ZI x3_111), some (ZI r119)] dX12_readLook_122 (by decide) rfl rfl ?_
                have k0 : x3_111 = 0 → zx_cnt σ_2 o x3_111 (σ_2 0 2) = zx_cnt σ_2 o 0 (σ_2 0 2) := fun h => by rw [h]
                have k1 : x3_111 = 1 → zx_cnt σ_2 o x3_111 (σ_2 0 2) = zx_cnt σ_2 o 1 (σ_2 0 2) := fun h => by rw [h]
                have k2 : x3_111 = 2 → zx_cnt σ_2 o x3_111 (σ_2 0 2) = zx_cnt σ_2 o 2 (σ_2 0 2) := fun h => by rw [h]
                refine zr_iload_n (pc := 124) hV dX12_readLook_124 rfl rfl ?_
                refine zr_if_eq (pc := 125) hV 146 dX12_readLook_125 (by decide) (by omega) (fun c18 => ?_) (fun c18 => ?_)
                · show V 146 [some (ZR 0), some (ZI o), some (ZI x2_111), some (ZI x3_111), some (ZI r119)] [] 41 σ_2
                  refine zr_iconst (pc := 146) hV 0 dX12_readLook_146 rfl ?_
                  show V 147 [some (ZR 0), some (ZI o), some (ZI x2_111), some (ZI x3_111), some (ZI r119)] [ZI 0] 41 σ_2
                  refine zr_istore_n (pc := 147) hV [some (ZR 0), some (ZI o), some (ZI 0), some (ZI x3_111), some (ZI r119)] dX12_readLook_147 rfl (by decide) rfl rfl ?_
                  refine zr_iinc (pc := 148) hV [some (ZR 0), some (ZI o), some (ZI 0), some (ZI (x3_111 + 1)), some (ZI r119)] (x3_111 + 1) dX12_readLook_148 rfl rfl (by decide) rfl rfl ?_
                  refine zr_goto (pc := 151) hV 111 dX12_readLook_151 (by decide) ?_
                  have t19 := zx_g2 hσ_2
                  have t20 : σ_2 0 2 = σ 0 2 := hFσ_2 _ _ (by omega)
                  have t21 := zx_g2 hσ_2
                  have t22 : σ_2 0 2 = σ 0 2 := hFσ_2 _ _ (by omega)
                  have t23 := zx_g2 hσ_2
                  have t24 : σ_2 0 2 = σ 0 2 := hFσ_2 _ _ (by omega)
                  have t25 := zx_g2 hσ_2
                  have t26 : σ_2 0 2 = σ 0 2 := hFσ_2 _ _ (by omega)
                  refine zr_sub (pc := 111) hV [some (ZR 0), some (ZI o), some (ZI 0), some (ZI (x3_111 + 1)), none] (⟨rfl, rfl, rfl, rfl, trivial⟩) ?_
                  exact ih111 0 (x3_111 + 1) (by omega) (by omega) (by omega) (by omega) (by omega) (by omega) (by omega)
                · show V 128 [some (ZR 0), some (ZI o), some (ZI x2_111), some (ZI x3_111), some (ZI r119)] [] 41 σ_2
                  refine zr_iload (pc := 128) hV dX12_readLook_128 rfl ?_
                  refine zr_if_eq (pc := 130) hV 142 dX12_readLook_130 (by decide) (by omega) (fun c27 => ?_) (fun c27 => ?_)
                  · show V 142 [some (ZR 0), some (ZI o), some (ZI x2_111), some (ZI x3_111), some (ZI r119)] [] 41 σ_2
                    refine zr_iconst (pc := 142) hV 1 dX12_readLook_142 rfl ?_
                    refine zr_goto (pc := 143) hV 147 dX12_readLook_143 (by decide) ?_
                    show V 147 [some (ZR 0), some (ZI o), some (ZI x2_111), some (ZI x3_111), some (ZI r119)] [ZI 1] 41 σ_2
                    refine zr_istore_n (pc := 147) hV [some (ZR 0), some (ZI o), some (ZI 1), some (ZI x3_111), some (ZI r119)] dX12_readLook_147 rfl (by decide) rfl rfl ?_
                    refine zr_iinc (pc := 148) hV [some (ZR 0), some (ZI o), some (ZI 1), some (ZI (x3_111 + 1)), some (ZI r119)] (x3_111 + 1) dX12_readLook_148 rfl rfl (by decide) rfl rfl ?_
                    refine zr_goto (pc := 151) hV 111 dX12_readLook_151 (by decide) ?_
                    have t28 := zx_g2 hσ_2
                    have t29 : σ_2 0 2 = σ 0 2 := hFσ_2 _ _ (by omega)
                    have t30 := zx_g2 hσ_2
                    have t31 : σ_2 0 2 = σ 0 2 := hFσ_2 _ _ (by omega)
                    have t32 := zx_g2 hσ_2
                    have t33 : σ_2 0 2 = σ 0 2 := hFσ_2 _ _ (by omega)
                    have t34 := zx_g2 hσ_2
                    have t35 : σ_2 0 2 = σ 0 2 := hFσ_2 _ _ (by omega)
                    refine zr_sub (pc := 111) hV [some (ZR 0), some (ZI o), some (ZI 1), some (ZI (x3_111 + 1)), none] (⟨rfl, rfl, rfl, rfl, trivial⟩) ?_
                    exact ih111 1 (x3_111 + 1) (by omega) (by omega) (by omega) (by omega) (by omega) (by omega) (by omega)
                  · show V 133 [some (ZR 0), some (ZI o), some (ZI x2_111), some (ZI x3_111), some (ZI r119)] [] 41 σ_2
                    refine zr_iload (pc := 133) hV dX12_readLook_133 rfl ?_
                    refine zr_aload_n (pc := 135) hV dX12_readLook_135 rfl rfl ?_
                    refine zr_getI (pc := 136) hV 1 dX12_readLook_136 fX12_13 rfl rfl rfl (by decide) ?_
                    have t36 := zx_g1 hσ_2
                    have t37 : σ_2 0 1 = σ 0 1 := hFσ_2 _ _ (by omega)
                    refine zr_icmp_ne (pc := 139) hV 146 dX12_readLook_139 (by decide) (by omega) (by omega) (fun c38 => ?_) (fun c38 => ?_)
                    · show V 146 [some (ZR 0), some (ZI o), some (ZI x2_111), some (ZI x3_111), some (ZI r119)] [] 41 σ_2
                      refine zr_iconst (pc := 146) hV 0 dX12_readLook_146 rfl ?_
                      show V 147 [some (ZR 0), some (ZI o), some (ZI x2_111), some (ZI x3_111), some (ZI r119)] [ZI 0] 41 σ_2
                      refine zr_istore_n (pc := 147) hV [some (ZR 0), some (ZI o), some (ZI 0), some (ZI x3_111), some (ZI r119)] dX12_readLook_147 rfl (by decide) rfl rfl ?_
                      refine zr_iinc (pc := 148) hV [some (ZR 0), some (ZI o), some (ZI 0), some (ZI (x3_111 + 1)), some (ZI r119)] (x3_111 + 1) dX12_readLook_148 rfl rfl (by decide) rfl rfl ?_
                      refine zr_goto (pc := 151) hV 111 dX12_readLook_151 (by decide) ?_
                      have t39 := zx_g2 hσ_2
                      have t40 : σ_2 0 2 = σ 0 2 := hFσ_2 _ _ (by omega)
                      have t41 := zx_g2 hσ_2
                      have t42 : σ_2 0 2 = σ 0 2 := hFσ_2 _ _ (by omega)
                      have t43 := zx_g2 hσ_2
                      have t44 : σ_2 0 2 = σ 0 2 := hFσ_2 _ _ (by omega)
                      have t45 := zx_g2 hσ_2
                      have t46 : σ_2 0 2 = σ 0 2 := hFσ_2 _ _ (by omega)
                      refine zr_sub (pc := 111) hV [some (ZR 0), some (ZI o), some (ZI 0), some (ZI (x3_111 + 1)), none] (⟨rfl, rfl, rfl, rfl, trivial⟩) ?_
                      exact ih111 0 (x3_111 + 1) (by omega) (by omega) (by omega) (by omega) (by omega) (by omega) (by omega)
                    · show V 142 [some (ZR 0), some (ZI o), some (ZI x2_111), some (ZI x3_111), some (ZI r119)] [] 41 σ_2
                      refine zr_iconst (pc := 142) hV 1 dX12_readLook_142 rfl ?_
                      refine zr_goto (pc := 143) hV 147 dX12_readLook_143 (by decide) ?_
                      show V 147 [some (ZR 0), some (ZI o), some (ZI x2_111), some (ZI x3_111), some (ZI r119)] [ZI 1] 41 σ_2
                      refine zr_istore_n (pc := 147) hV [some (ZR 0), some (ZI o), some (ZI 1), some (ZI x3_111), some (ZI r119)] dX12_readLook_147 rfl (by decide) rfl rfl ?_
                      refine zr_iinc (pc := 148) hV [some (ZR 0), some (ZI o), some (ZI 1), some (ZI (x3_111 + 1)), some (ZI r119)] (x3_111 + 1) dX12_readLook_148 rfl rfl (by decide) rfl rfl ?_
                      refine zr_goto (pc := 151) hV 111 dX12_readLook_151 (by decide) ?_
                      have t47 := zx_g2 hσ_2
                      have t48 : σ_2 0 2 = σ 0 2 := hFσ_2 _ _ (by omega)
                      have t49 := zx_g2 hσ_2
                      have t50 : σ_2 0 2 = σ 0 2 := hFσ_2 _ _ (by omega)
                      have t51 := zx_g2 hσ_2
                      have t52 : σ_2 0 2 = σ 0 2 := hFσ_2 _ _ (by omega)
                      have t53 := zx_g2 hσ_2
                      have t54 : σ_2 0 2 = σ 0 2 := hFσ_2 _ _ (by omega)
                      refine zr_sub (pc := 111) hV [some (ZR 0), some (ZI o), some (ZI 1), some (ZI (x3_111 + 1)), none] (⟨rfl, rfl, rfl, rfl, trivial⟩) ?_
                      exact ih111 1 (x3_111 + 1) (by omega) (by omega) (by omega) (by omega) (by omega) (by omega) (by omega)
          have t55 := zx_g2 hσ_2
          have t56 : σ_2 0 2 = σ 0 2 := hFσ_2 _ _ (by omega)
          have t57 := zx_g2 hσ_2
          have t58 : σ_2 0 2 = σ 0 2 := hFσ_2 _ _ (by omega)
          have t59 := zx_g2 hσ_2
          have t60 : σ_2 0 2 = σ 0 2 := hFσ_2 _ _ (by omega)
          have t61 := zx_g2 hσ_2
          have t62 : σ_2 0 2 = σ 0 2 := hFσ_2 _ _ (by omega)
          exact L111 (3 - (0 : Int) + 1 : Int).toNat 0 0 (by omega) (by omega) (by omega) (by omega) (by omega) (by omega) (by omega)
        · show V 103 [some (ZR 0), some (ZI o), some (ZI x2_2), none, none] [] 41 σ_2
          refine zr_iconst (pc := 103) hV 1 dX12_readLook_103 rfl ?_
          refine zr_goto (pc := 104) hV 108 dX12_readLook_104 (by decide) ?_
          show V 108 [some (ZR 0), some (ZI o), some (ZI x2_2), none, none] [ZI 1] 41 σ_2
          refine zr_istore_n (pc := 108) hV [some (ZR 0), some (ZI o), some (ZI 1), none, none] dX12_readLook_108 rfl (by decide) rfl rfl ?_
          refine zr_iconst (pc := 109) hV 0 dX12_readLook_109 rfl ?_
          refine zr_istore_n (pc := 110) hV [some (ZR 0), some (ZI o), some (ZI 1), some (ZI 0), none] dX12_readLook_110 rfl (by decide) rfl rfl ?_
          have L111 : ∀ (fuel : Nat) (x2_111 : Int) (x3_111 : Int), (0 ≤ x2_111 ∧ x2_111 ≤ 1) → (0 ≤ x3_111 ∧ x3_111 ≤ 3) → (x2_111 = 1 → zx_cnt σ_2 o 3 (σ_2 0 2) ≤ 8) → (x2_111 = 1 → 1 ≤ x3_111 → zx_cnt σ_2 o 0 (σ_2 0 2) ≤ 3) → (x2_111 = 1 → 2 ≤ x3_111 → zx_cnt σ_2 o 1 (σ_2 0 2) ≤ 3) → (x2_111 = 1 → 3 ≤ x3_111 → zx_cnt σ_2 o 2 (σ_2 0 2) ≤ 3) → 3 - x3_111 < (fuel : Int) → V 111 [some (ZR 0), some (ZI o), some (ZI x2_111), some (ZI x3_111), none] [] 41 σ_2 := by
            intro fuel
            induction fuel with
            | zero =>
              intro x2_111 x3_111 hx2_111 hx3_111 hi111_0 hi111_1 hi111_2 hi111_3 hm111
              exfalso; omega
            | succ fuel ih =>
              intro x2_111 x3_111 hx2_111 hx3_111 hi111_0 hi111_1 hi111_2 hi111_3 hm111
              have ih111 := ih
              show V 111 [some (ZR 0), some (ZI o), some (ZI x2_111), some (ZI x3_111), none] [] 41 σ_2
              refine zr_iload_n (pc := 111) hV dX12_readLook_111 rfl rfl ?_
              refine zr_iconst (pc := 112) hV 3 dX12_readLook_112 rfl ?_
              refine zr_icmp_ge (pc := 113) hV 154 dX12_readLook_113 (by decide) (by omega) ⟨by decide, by decide⟩ (fun c63 => ?_) (fun c63 => ?_)
              · show V 154 [some (ZR 0), some (ZI o), some (ZI x2_111), some (ZI x3_111), none] [] 41 σ_2
                refine zr_aload_n (pc := 154) hV dX12_readLook_154 rfl rfl ?_
                refine zr_callVi (pc := 155) hV [] (st := []) (c_X12_next (σ := σ_2) hσ_2 ) dX12_readLook_155 mX12_203 rfl (by decide) (by decide) (Nat.le_of_ble_eq_true rfl) (Nat.le_refl _) (fun r155 σ155 hr155 pσ155 => ?_)
                obtain ⟨hσ155, hfσ155, pσ155, wσ155⟩ := pσ155
                have hFσ155 : ∀ a i : Int, (¬ (a = 0 ∧ i = 15) ∧ ¬ (a = 2 ∧ 12 * o ≤ i ∧ i < 12 * o + 12)) → σ155 a i = σ a i := fun a i h => (hfσ155 a i h.1).trans (hFσ_2 a i h)
                have t64 := zx_g14 hσ_2
                have t65 : σ_2 0 14 = σ 0 14 := hFσ_2 _ _ (by omega)
                have t66 := zx_g15 hσ_2
                have t67 := zx_g15 hσ155
                refine zr_istore_n (pc := 158) hV [some (ZR 0), some (ZI o), some (ZI x2_111), some (ZI r155), none] dX12_readLook_158 rfl (by decide) rfl rfl ?_
                refine zr_iload_n (pc := 159) hV dX12_readLook_159 rfl rfl ?_
                refine zr_if_eq (pc := 160) hV 173 dX12_readLook_160 (by decide) (by omega) (fun c68 => ?_) (fun c68 => ?_)
                · show V 173 [some (ZR 0), some (ZI o), some (ZI x2_111), some (ZI r155), none] [] 41 σ155
                  refine zr_iconst (pc := 173) hV 0 dX12_readLook_173 rfl ?_
                  show V 174 [some (ZR 0), some (ZI o), some (ZI x2_111), some (ZI r155), none] [ZI 0] 41 σ155
                  exact zr_zret (pc := 174) hV dX12_readLook_174 rfl rfl (by omega) ⟨_, rfl, ⟨by decide, by decide⟩, hσ155, hFσ155, (by omega), (show (0 : Int) = 1 → zx_B σ155 o from (fun h => absurd h (by omega)))⟩
                · show V 163 [some (ZR 0), some (ZI o), some (ZI x2_111), some (ZI r155), none] [] 41 σ155
                  refine zr_iload_n (pc := 163) hV dX12_readLook_163 rfl rfl ?_
                  refine zr_bipush (pc := 164) hV 58 dX12_readLook_164 (by decide) ?_
                  refine zr_icmp_ne (pc := 166) hV 173 dX12_readLook_166 (by decide) (by omega) ⟨by decide, by decide⟩ (fun c69 => ?_) (fun c69 => ?_)
                  · show V 173 [some (ZR 0), some (ZI o), some (ZI x2_111), some (ZI r155), none] [] 41 σ155
                    refine zr_iconst (pc := 173) hV 0 dX12_readLook_173 rfl ?_
                    show V 174 [some (ZR 0), some (ZI o), some (ZI x2_111), some (ZI r155), none] [ZI 0] 41 σ155
                    exact zr_zret (pc := 174) hV dX12_readLook_174 rfl rfl (by omega) ⟨_, rfl, ⟨by decide, by decide⟩, hσ155, hFσ155, (by omega), (show (0 : Int) = 1 → zx_B σ155 o from (fun h => absurd h (by omega)))⟩
                  · show V 169 [some (ZR 0), some (ZI o), some (ZI x2_111), some (ZI r155), none] [] 41 σ155
                    refine zr_iconst (pc := 169) hV 1 dX12_readLook_169 rfl ?_
                    refine zr_goto (pc := 170) hV 174 dX12_readLook_170 (by decide) ?_
                    show V 174 [some (ZR 0), some (ZI o), some (ZI x2_111), some (ZI r155), none] [ZI 1] 41 σ155
                    exact zr_zret (pc := 174) hV dX12_readLook_174 rfl rfl (by omega) ⟨_, rfl, ⟨by decide, by decide⟩, hσ155, hFσ155, (by omega), (show (1 : Int) = 1 → zx_B σ155 o from (fun _ => zx_B_fr (fun i => hfσ155 2 i (by omega)) (hfσ155 0 2 (by omega)) ⟨by omega, by omega, by omega, by omega⟩))⟩
              · show V 116 [some (ZR 0), some (ZI o), some (ZI x2_111), some (ZI x3_111), none] [] 41 σ_2
                refine zr_aload_n (pc := 116) hV dX12_readLook_116 rfl rfl ?_
                refine zr_iload_n (pc := 117) hV dX12_readLook_117 rfl rfl ?_
                refine zr_iload_n (pc := 118) hV dX12_readLook_118 rfl rfl ?_
                refine zr_callVp (pc := 119) hV [ZI o, ZI x3_111] (st := []) (c_X12_fieldBits (σ := σ_2) hσ_2 o x3_111 (by omega) (by omega)) dX12_readLook_119 mX12_184 rfl (by decide) (by decide) (Nat.le_of_ble_eq_true rfl) (Nat.le_refl _) (fun r119 hr119 pr119 => ?_)
                have t70 := zx_g2 hσ_2
                have t71 : σ_2 0 2 = σ 0 2 := hFσ_2 _ _ (by omega)
                refine zr_istore (pc := 122) hV [some (ZR 0), some (ZI o), some (ZI x2_111), some (ZI x3_111), some (ZI r119)] dX12_readLook_122 (by decide) rfl rfl ?_
                have k0 : x3_111 = 0 → zx_cnt σ_2 o x3_111 (σ_2 0 2) = zx_cnt σ_2 o 0 (σ_2 0 2) := fun h => by rw [h]
                have k1 : x3_111 = 1 → zx_cnt σ_2 o x3_111 (σ_2 0 2) = zx_cnt σ_2 o 1 (σ_2 0 2) := fun h => by rw [h]
                have k2 : x3_111 = 2 → zx_cnt σ_2 o x3_111 (σ_2 0 2) = zx_cnt σ_2 o 2 (σ_2 0 2) := fun h => by rw [h]
                refine zr_iload_n (pc := 124) hV dX12_readLook_124 rfl rfl ?_
                refine zr_if_eq (pc := 125) hV 146 dX12_readLook_125 (by decide) (by omega) (fun c72 => ?_) (fun c72 => ?_)
                · show V 146 [some (ZR 0), some (ZI o), some (ZI x2_111), some (ZI x3_111), some (ZI r119)] [] 41 σ_2
                  refine zr_iconst (pc := 146) hV 0 dX12_readLook_146 rfl ?_
                  show V 147 [some (ZR 0), some (ZI o), some (ZI x2_111), some (ZI x3_111), some (ZI r119)] [ZI 0] 41 σ_2
                  refine zr_istore_n (pc := 147) hV [some (ZR 0), some (ZI o), some (ZI 0), some (ZI x3_111), some (ZI r119)] dX12_readLook_147 rfl (by decide) rfl rfl ?_
                  refine zr_iinc (pc := 148) hV [some (ZR 0), some (ZI o), some (ZI 0), some (ZI (x3_111 + 1)), some (ZI r119)] (x3_111 + 1) dX12_readLook_148 rfl rfl (by decide) rfl rfl ?_
                  refine zr_goto (pc := 151) hV 111 dX12_readLook_151 (by decide) ?_
                  have t73 := zx_g2 hσ_2
                  have t74 : σ_2 0 2 = σ 0 2 := hFσ_2 _ _ (by omega)
                  have t75 := zx_g2 hσ_2
                  have t76 : σ_2 0 2 = σ 0 2 := hFσ_2 _ _ (by omega)
                  have t77 := zx_g2 hσ_2
                  have t78 : σ_2 0 2 = σ 0 2 := hFσ_2 _ _ (by omega)
                  have t79 := zx_g2 hσ_2
                  have t80 : σ_2 0 2 = σ 0 2 := hFσ_2 _ _ (by omega)
                  refine zr_sub (pc := 111) hV [some (ZR 0), some (ZI o), some (ZI 0), some (ZI (x3_111 + 1)), none] (⟨rfl, rfl, rfl, rfl, trivial⟩) ?_
                  exact ih111 0 (x3_111 + 1) (by omega) (by omega) (by omega) (by omega) (by omega) (by omega) (by omega)
                · show V 128 [some (ZR 0), some (ZI o), some (ZI x2_111), some (ZI x3_111), some (ZI r119)] [] 41 σ_2
                  refine zr_iload (pc := 128) hV dX12_readLook_128 rfl ?_
                  refine zr_if_eq (pc := 130) hV 142 dX12_readLook_130 (by decide) (by omega) (fun c81 => ?_) (fun c81 => ?_)
                  · show V 142 [some (ZR 0), some (ZI o), some (ZI x2_111), some (ZI x3_111), some (ZI r119)] [] 41 σ_2
                    refine zr_iconst (pc := 142) hV 1 dX12_readLook_142 rfl ?_
                    refine zr_goto (pc := 143) hV 147 dX12_readLook_143 (by decide) ?_
                    show V 147 [some (ZR 0), some (ZI o), some (ZI x2_111), some (ZI x3_111), some (ZI r119)] [ZI 1] 41 σ_2
                    refine zr_istore_n (pc := 147) hV [some (ZR 0), some (ZI o), some (ZI 1), some (ZI x3_111), some (ZI r119)] dX12_readLook_147 rfl (by decide) rfl rfl ?_
                    refine zr_iinc (pc := 148) hV [some (ZR 0), some (ZI o), some (ZI 1), some (ZI (x3_111 + 1)), some (ZI r119)] (x3_111 + 1) dX12_readLook_148 rfl rfl (by decide) rfl rfl ?_
                    refine zr_goto (pc := 151) hV 111 dX12_readLook_151 (by decide) ?_
                    have t82 := zx_g2 hσ_2
                    have t83 : σ_2 0 2 = σ 0 2 := hFσ_2 _ _ (by omega)
                    have t84 := zx_g2 hσ_2
                    have t85 : σ_2 0 2 = σ 0 2 := hFσ_2 _ _ (by omega)
                    have t86 := zx_g2 hσ_2
                    have t87 : σ_2 0 2 = σ 0 2 := hFσ_2 _ _ (by omega)
                    have t88 := zx_g2 hσ_2
                    have t89 : σ_2 0 2 = σ 0 2 := hFσ_2 _ _ (by omega)
                    refine zr_sub (pc := 111) hV [some (ZR 0), some (ZI o), some (ZI 1), some (ZI (x3_111 + 1)), none] (⟨rfl, rfl, rfl, rfl, trivial⟩) ?_
                    exact ih111 1 (x3_111 + 1) (by omega) (by omega) (by omega) (by omega) (by omega) (by omega) (by omega)
                  · show V 133 [some (ZR 0), some (ZI o), some (ZI x2_111), some (ZI x3_111), some (ZI r119)] [] 41 σ_2
                    refine zr_iload (pc := 133) hV dX12_readLook_133 rfl ?_
                    refine zr_aload_n (pc := 135) hV dX12_readLook_135 rfl rfl ?_
                    refine zr_getI (pc := 136) hV 1 dX12_readLook_136 fX12_13 rfl rfl rfl (by decide) ?_
                    have t90 := zx_g1 hσ_2
                    have t91 : σ_2 0 1 = σ 0 1 := hFσ_2 _ _ (by omega)
                    refine zr_icmp_ne (pc := 139) hV 146 dX12_readLook_139 (by decide) (by omega) (by omega) (fun c92 => ?_) (fun c92 => ?_)
                    · show V 146 [some (ZR 0), some (ZI o), some (ZI x2_111), some (ZI x3_111), some (ZI r119)] [] 41 σ_2
                      refine zr_iconst (pc := 146) hV 0 dX12_readLook_146 rfl ?_
                      show V 147 [some (ZR 0), some (ZI o), some (ZI x2_111), some (ZI x3_111), some (ZI r119)] [ZI 0] 41 σ_2
                      refine zr_istore_n (pc := 147) hV [some (ZR 0), some (ZI o), some (ZI 0), some (ZI x3_111), some (ZI r119)] dX12_readLook_147 rfl (by decide) rfl rfl ?_
                      refine zr_iinc (pc := 148) hV [some (ZR 0), some (ZI o), some (ZI 0), some (ZI (x3_111 + 1)), some (ZI r119)] (x3_111 + 1) dX12_readLook_148 rfl rfl (by decide) rfl rfl ?_
                      refine zr_goto (pc := 151) hV 111 dX12_readLook_151 (by decide) ?_
                      have t93 := zx_g2 hσ_2
                      have t94 : σ_2 0 2 = σ 0 2 := hFσ_2 _ _ (by omega)
                      have t95 := zx_g2 hσ_2
                      have t96 : σ_2 0 2 = σ 0 2 := hFσ_2 _ _ (by omega)
                      have t97 := zx_g2 hσ_2
                      have t98 : σ_2 0 2 = σ 0 2 := hFσ_2 _ _ (by omega)
                      have t99 := zx_g2 hσ_2
                      have t100 : σ_2 0 2 = σ 0 2 := hFσ_2 _ _ (by omega)
                      refine zr_sub (pc := 111) hV [some (ZR 0), some (ZI o), some (ZI 0), some (ZI (x3_111 + 1)), none] (⟨rfl, rfl, rfl, rfl, trivial⟩) ?_
                      exact ih111 0 (x3_111 + 1) (by omega) (by omega) (by omega) (by omega) (by omega) (by omega) (by omega)
                    · show V 142 [some (ZR 0), some (ZI o), some (ZI x2_111), some (ZI x3_111), some (ZI r119)] [] 41 σ_2
                      refine zr_iconst (pc := 142) hV 1 dX12_readLook_142 rfl ?_
                      refine zr_goto (pc := 143) hV 147 dX12_readLook_143 (by decide) ?_
                      show V 147 [some (ZR 0), some (ZI o), some (ZI x2_111), some (ZI x3_111), some (ZI r119)] [ZI 1] 41 σ_2
                      refine zr_istore_n (pc := 147) hV [some (ZR 0), some (ZI o), some (ZI 1), some (ZI x3_111), some (ZI r119)] dX12_readLook_147 rfl (by decide) rfl rfl ?_
                      refine zr_iinc (pc := 148) hV [some (ZR 0), some (ZI o), some (ZI 1), some (ZI (x3_111 + 1)), some (ZI r119)] (x3_111 + 1) dX12_readLook_148 rfl rfl (by decide) rfl rfl ?_
                      refine zr_goto (pc := 151) hV 111 dX12_readLook_151 (by decide) ?_
                      have t101 := zx_g2 hσ_2
                      have t102 : σ_2 0 2 = σ 0 2 := hFσ_2 _ _ (by omega)
                      have t103 := zx_g2 hσ_2
                      have t104 : σ_2 0 2 = σ 0 2 := hFσ_2 _ _ (by omega)
                      have t105 := zx_g2 hσ_2
                      have t106 : σ_2 0 2 = σ 0 2 := hFσ_2 _ _ (by omega)
                      have t107 := zx_g2 hσ_2
                      have t108 : σ_2 0 2 = σ 0 2 := hFσ_2 _ _ (by omega)
                      refine zr_sub (pc := 111) hV [some (ZR 0), some (ZI o), some (ZI 1), some (ZI (x3_111 + 1)), none] (⟨rfl, rfl, rfl, rfl, trivial⟩) ?_
                      exact ih111 1 (x3_111 + 1) (by omega) (by omega) (by omega) (by omega) (by omega) (by omega) (by omega)
          have t109 := zx_g2 hσ_2
          have t110 : σ_2 0 2 = σ 0 2 := hFσ_2 _ _ (by omega)
          have t111 := zx_g2 hσ_2
          have t112 : σ_2 0 2 = σ 0 2 := hFσ_2 _ _ (by omega)
          have t113 := zx_g2 hσ_2
          have t114 : σ_2 0 2 = σ 0 2 := hFσ_2 _ _ (by omega)
          have t115 := zx_g2 hσ_2
          have t116 : σ_2 0 2 = σ 0 2 := hFσ_2 _ _ (by omega)
          exact L111 (3 - (0 : Int) + 1 : Int).toNat 1 0 (by omega) (by omega) (by omega) (by omega) (by omega) (by omega) (by omega)
      · show V 10 [some (ZR 0), some (ZI o), some (ZI x2_2), none, none] [] 41 σ_2
        refine zr_aload_n (pc := 10) hV dX12_readLook_10 rfl rfl ?_
        refine zr_callVi (pc := 11) hV [] (st := []) (c_X12_next (σ := σ_2) hσ_2 ) dX12_readLook_11 mX12_203 rfl (by decide) (by decide) (Nat.le_of_ble_eq_true rfl) (Nat.le_refl _) (fun r11 σ11 hr11 pσ11 => ?_)
        obtain ⟨hσ11, hfσ11, pσ11, wσ11⟩ := pσ11
        have hFσ11 : ∀ a i : Int, (¬ (a = 0 ∧ i = 15) ∧ ¬ (a = 2 ∧ 12 * o ≤ i ∧ i < 12 * o + 12)) → σ11 a i = σ a i := fun a i h => (hfσ11 a i h.1).trans (hFσ_2 a i h)
        have t117 := zx_g14 hσ_2
        have t118 : σ_2 0 14 = σ 0 14 := hFσ_2 _ _ (by omega)
        have t119 := zx_g15 hσ_2
        have t120 := zx_g15 hσ11
        refine zr_istore_n (pc := 14) hV [some (ZR 0), some (ZI o), some (ZI x2_2), some (ZI r11), none] dX12_readLook_14 rfl (by decide) rfl rfl ?_
        refine zr_iload_n (pc := 15) hV dX12_readLook_15 rfl rfl ?_
        refine zr_bipush (pc := 16) hV 48 dX12_readLook_16 (by decide) ?_
        refine zr_icmp_ne (pc := 18) hV 25 dX12_readLook_18 (by decide) (by omega) ⟨by decide, by decide⟩ (fun c121 => ?_) (fun c121 => ?_)
        · show V 25 [some (ZR 0), some (ZI o), some (ZI x2_2), some (ZI r11), none] [] 41 σ11
          refine zr_iload_n (pc := 25) hV dX12_readLook_25 rfl rfl ?_
          refine zr_bipush (pc := 26) hV 49 dX12_readLook_26 (by decide) ?_
          refine zr_icmp_ne (pc := 28) hV 35 dX12_readLook_28 (by decide) (by omega) ⟨by decide, by decide⟩ (fun c122 => ?_) (fun c122 => ?_)
          · show V 35 [some (ZR 0), some (ZI o), some (ZI x2_2), some (ZI r11), none] [] 41 σ11
            refine zr_iload_n (pc := 35) hV dX12_readLook_35 rfl rfl ?_
            refine zr_callSp (pc := 36) hV [ZI r11] (st := []) (c_X12_fieldLetter (σ := σ11) r11 (by omega)) dX12_readLook_36 mX12_225 (by decide) (Nat.le_of_ble_eq_true rfl) (Nat.le_refl _) (fun r36 hr36 pr36 => ?_)
            refine zr_if_ge (pc := 39) hV 46 dX12_readLook_39 (by decide) (by omega) (fun c123 => ?_) (fun c123 => ?_)
            · show V 46 [some (ZR 0), some (ZI o), some (ZI x2_2), some (ZI r11), none] [] 41 σ11
              refine zr_iconst (pc := 46) hV 2 dX12_readLook_46 rfl ?_
              refine zr_iload_n (pc := 47) hV dX12_readLook_47 rfl rfl ?_
              refine zr_callSp (pc := 48) hV [ZI r11] (st := [ZI 2]) (c_X12_fieldLetter (σ := σ11) r11 (by omega)) dX12_readLook_48 mX12_225 (by decide) (Nat.le_of_ble_eq_true rfl) (Nat.le_refl _) (fun r48 hr48 pr48 => ?_)
              refine zr_iadd (pc := 51) hV dX12_readLook_51 ?_
              show V 52 [some (ZR 0), some (ZI o), some (ZI x2_2), some (ZI r11), none] [ZI (2 + r48)] 41 σ11
              refine zr_istore (pc := 52) hV [some (ZR 0), some (ZI o), some (ZI x2_2), some (ZI r11), some (ZI (2 + r48))] dX12_readLook_52 (by decide) rfl rfl ?_
              refine zr_iload (pc := 54) hV dX12_readLook_54 rfl ?_
              refine zr_if_ge (pc := 56) hV 61 dX12_readLook_56 (by decide) (by omega) (fun c124 => ?_) (fun c124 => ?_)
              · show V 61 [some (ZR 0), some (ZI o), some (ZI x2_2), some (ZI r11), some (ZI (2 + r48))] [] 41 σ11
                refine zr_aload_n (pc := 61) hV dX12_readLook_61 rfl rfl ?_
                refine zr_getR (pc := 62) hV 5 2 dX12_readLook_62 fX12_23 rfl rfl rfl (by decide) (zx_g5 hσ11) (by omega) ?_
                refine zr_bipush (pc := 65) hV 12 dX12_readLook_65 (by decide) ?_
                refine zr_iload_n (pc := 67) hV dX12_readLook_67 rfl rfl ?_
                refine zr_imul (pc := 68) hV dX12_readLook_68 ?_
                refine zr_iload_n (pc := 69) hV dX12_readLook_69 rfl rfl ?_
                refine zr_iadd (pc := 70) hV dX12_readLook_70 ?_
                refine zr_iload (pc := 71) hV dX12_readLook_71 rfl ?_
                refine zr_iast (pc := 73) hV dX12_readLook_73 rfl (by decide) rfl (by omega) (fun σ73 eσ73 => ?_)
                have hσ73 : zx_T σ73 := zx_ua2 eσ73 hσ11 (by omega)
                have hFσ73 : ∀ a i : Int, (¬ (a = 0 ∧ i = 15) ∧ ¬ (a = 2 ∧ 12 * o ≤ i ∧ i < 12 * o + 12)) → σ73 a i = σ a i := fun a i h => by rw [eσ73, zq_up_ne (fun q => h.2 ⟨q.1, by omega⟩)]; exact hFσ11 a i h
                refine zr_aload_n (pc := 74) hV dX12_readLook_74 rfl rfl ?_
                refine zr_dup (pc := 75) hV dX12_readLook_75 (fun _ => rfl) ?_
                refine zr_getI (pc := 76) hV 15 dX12_readLook_76 fX12_200 rfl rfl rfl (by decide) ?_
                have t125 := zx_g15 hσ73
                have t126 : σ73 0 15 = σ11 0 15 := by rw [eσ73]; exact zq_up_ne (by omega)
                refine zr_iconst (pc := 79) hV 1 dX12_readLook_79 rfl ?_
                refine zr_iadd (pc := 80) hV dX12_readLook_80 ?_
                refine zr_putI (pc := 81) hV 15 dX12_readLook_81 fX12_200 rfl rfl rfl rfl (by decide) (fun σ81 eσ81 => ?_)
                have hσ81 : zx_T σ81 := zx_u15 eσ81 hσ73 (by omega)
                have hFσ81 : ∀ a i : Int, (¬ (a = 0 ∧ i = 15) ∧ ¬ (a = 2 ∧ 12 * o ≤ i ∧ i < 12 * o + 12)) → σ81 a i = σ a i := fun a i h => by rw [eσ81, zq_up_ne h.1]; exact hFσ73 a i h
                refine zr_iinc (pc := 84) hV [some (ZR 0), some (ZI o), some (ZI (x2_2 + 1)), some (ZI r11), some (ZI (2 + r48))] (x2_2 + 1) dX12_readLook_84 rfl rfl (by decide) rfl rfl ?_
                refine zr_goto (pc := 87) hV 2 dX12_readLook_87 (by decide) ?_
                refine zr_sub (pc := 2) hV [some (ZR 0), some (ZI o), some (ZI (x2_2 + 1)), none, none] (⟨rfl, rfl, rfl, trivial⟩) ?_
                exact ih2 (x2_2 + 1) σ81 (by omega) hσ81 hFσ81 (by omega)
              · exfalso; omega
            · show V 42 [some (ZR 0), some (ZI o), some (ZI x2_2), some (ZI r11), none] [] 41 σ11
              refine zr_iconst (pc := 42) hV (-1) dX12_readLook_42 rfl ?_
              refine zr_goto (pc := 43) hV 52 dX12_readLook_43 (by decide) ?_
              show V 52 [some (ZR 0), some (ZI o), some (ZI x2_2), some (ZI r11), none] [ZI (-1)] 41 σ11
              refine zr_istore (pc := 52) hV [some (ZR 0), some (ZI o), some (ZI x2_2), some (ZI r11), some (ZI (-1))] dX12_readLook_52 (by decide) rfl rfl ?_
              refine zr_iload (pc := 54) hV dX12_readLook_54 rfl ?_
              refine zr_if_ge (pc := 56) hV 61 dX12_readLook_56 (by decide) ⟨by decide, by decide⟩ (fun c127 => ?_) (fun c127 => ?_)
              · exfalso; omega
              · show V 59 [some (ZR 0), some (ZI o), some (ZI x2_2), some (ZI r11), some (ZI (-1))] [] 41 σ11
                refine zr_iconst (pc := 59) hV 0 dX12_readLook_59 rfl ?_
                exact zr_zret (pc := 60) hV dX12_readLook_60 rfl rfl (by omega) ⟨_, rfl, ⟨by decide, by decide⟩, hσ11, hFσ11, (by omega), (show (0 : Int) = 1 → zx_B σ11 o from (fun h => absurd h (by omega)))⟩
          · show V 31 [some (ZR 0), some (ZI o), some (ZI x2_2), some (ZI r11), none] [] 41 σ11
            refine zr_iconst (pc := 31) hV 1 dX12_readLook_31 rfl ?_
            refine zr_goto (pc := 32) hV 52 dX12_readLook_32 (by decide) ?_
            show V 52 [some (ZR 0), some (ZI o), some (ZI x2_2), some (ZI r11), none] [ZI 1] 41 σ11
            refine zr_istore (pc := 52) hV [some (ZR 0), some (ZI o), some (ZI x2_2), some (ZI r11), some (ZI 1)] dX12_readLook_52 (by decide) rfl rfl ?_
            refine zr_iload (pc := 54) hV dX12_readLook_54 rfl ?_
            refine zr_if_ge (pc := 56) hV 61 dX12_readLook_56 (by decide) ⟨by decide, by decide⟩ (fun c128 => ?_) (fun c128 => ?_)
            · show V 61 [some (ZR 0), some (ZI o), some (ZI x2_2), some (ZI r11), some (ZI 1)] [] 41 σ11
              refine zr_aload_n (pc := 61) hV dX12_readLook_61 rfl rfl ?_
              refine zr_getR (pc := 62) hV 5 2 dX12_readLook_62 fX12_23 rfl rfl rfl (by decide) (zx_g5 hσ11) (by omega) ?_
              refine zr_bipush (pc := 65) hV 12 dX12_readLook_65 (by decide) ?_
              refine zr_iload_n (pc := 67) hV dX12_readLook_67 rfl rfl ?_
              refine zr_imul (pc := 68) hV dX12_readLook_68 ?_
              refine zr_iload_n (pc := 69) hV dX12_readLook_69 rfl rfl ?_
              refine zr_iadd (pc := 70) hV dX12_readLook_70 ?_
              refine zr_iload (pc := 71) hV dX12_readLook_71 rfl ?_
              refine zr_iast (pc := 73) hV dX12_readLook_73 rfl (by decide) rfl (by omega) (fun σ73 eσ73 => ?_)
              have hσ73 : zx_T σ73 := zx_ua2 eσ73 hσ11 (by omega)
              have hFσ73 : ∀ a i : Int, (¬ (a = 0 ∧ i = 15) ∧ ¬ (a = 2 ∧ 12 * o ≤ i ∧ i < 12 * o + 12)) → σ73 a i = σ a i := fun a i h => by rw [eσ73, zq_up_ne (fun q => h.2 ⟨q.1, by omega⟩)]; exact hFσ11 a i h
              refine zr_aload_n (pc := 74) hV dX12_readLook_74 rfl rfl ?_
              refine zr_dup (pc := 75) hV dX12_readLook_75 (fun _ => rfl) ?_
              refine zr_getI (pc := 76) hV 15 dX12_readLook_76 fX12_200 rfl rfl rfl (by decide) ?_
              have t129 := zx_g15 hσ73
              have t130 : σ73 0 15 = σ11 0 15 := by rw [eσ73]; exact zq_up_ne (by omega)
              refine zr_iconst (pc := 79) hV 1 dX12_readLook_79 rfl ?_
              refine zr_iadd (pc := 80) hV dX12_readLook_80 ?_
              refine zr_putI (pc := 81) hV 15 dX12_readLook_81 fX12_200 rfl rfl rfl rfl (by decide) (fun σ81 eσ81 => ?_)
              have hσ81 : zx_T σ81 := zx_u15 eσ81 hσ73 (by omega)
              have hFσ81 : ∀ a i : Int, (¬ (a = 0 ∧ i = 15) ∧ ¬ (a = 2 ∧ 12 * o ≤ i ∧ i < 12 * o + 12)) → σ81 a i = σ a i := fun a i h => by rw [eσ81, zq_up_ne h.1]; exact hFσ73 a i h
              refine zr_iinc (pc := 84) hV [some (ZR 0), some (ZI o), some (ZI (x2_2 + 1)), some (ZI r11), some (ZI 1)] (x2_2 + 1) dX12_readLook_84 rfl rfl (by decide) rfl rfl ?_
              refine zr_goto (pc := 87) hV 2 dX12_readLook_87 (by decide) ?_
              refine zr_sub (pc := 2) hV [some (ZR 0), some (ZI o), some (ZI (x2_2 + 1)), none, none] (⟨rfl, rfl, rfl, trivial⟩) ?_
              exact ih2 (x2_2 + 1) σ81 (by omega) hσ81 hFσ81 (by omega)
            · exfalso; omega
        · show V 21 [some (ZR 0), some (ZI o), some (ZI x2_2), some (ZI r11), none] [] 41 σ11
          refine zr_iconst (pc := 21) hV 0 dX12_readLook_21 rfl ?_
          refine zr_goto (pc := 22) hV 52 dX12_readLook_22 (by decide) ?_
          show V 52 [some (ZR 0), some (ZI o), some (ZI x2_2), some (ZI r11), none] [ZI 0] 41 σ11
          refine zr_istore (pc := 52) hV [some (ZR 0), some (ZI o), some (ZI x2_2), some (ZI r11), some (ZI 0)] dX12_readLook_52 (by decide) rfl rfl ?_
          refine zr_iload (pc := 54) hV dX12_readLook_54 rfl ?_
          refine zr_if_ge (pc := 56) hV 61 dX12_readLook_56 (by decide) ⟨by decide, by decide⟩ (fun c131 => ?_) (fun c131 => ?_)
          · show V 61 [some (ZR 0), some (ZI o), some (ZI x2_2), some (ZI r11), some (ZI 0)] [] 41 σ11
            refine zr_aload_n (pc := 61) hV dX12_readLook_61 rfl rfl ?_
            refine zr_getR (pc := 62) hV 5 2 dX12_readLook_62 fX12_23 rfl rfl rfl (by decide) (zx_g5 hσ11) (by omega) ?_
            refine zr_bipush (pc := 65) hV 12 dX12_readLook_65 (by decide) ?_
            refine zr_iload_n (pc := 67) hV dX12_readLook_67 rfl rfl ?_
            refine zr_imul (pc := 68) hV dX12_readLook_68 ?_
            refine zr_iload_n (pc := 69) hV dX12_readLook_69 rfl rfl ?_
            refine zr_iadd (pc := 70) hV dX12_readLook_70 ?_
            refine zr_iload (pc := 71) hV dX12_readLook_71 rfl ?_
            refine zr_iast (pc := 73) hV dX12_readLook_73 rfl (by decide) rfl (by omega) (fun σ73 eσ73 => ?_)
            have hσ73 : zx_T σ73 := zx_ua2 eσ73 hσ11 (by omega)
            have hFσ73 : ∀ a i : Int, (¬ (a = 0 ∧ i = 15) ∧ ¬ (a = 2 ∧ 12 * o ≤ i ∧ i < 12 * o + 12)) → σ73 a i = σ a i := fun a i h => by rw [eσ73, zq_up_ne (fun q => h.2 ⟨q.1, by omega⟩)]; exact hFσ11 a i h
            refine zr_aload_n (pc := 74) hV dX12_readLook_74 rfl rfl ?_
            refine zr_dup (pc := 75) hV dX12_readLook_75 (fun _ => rfl) ?_
            refine zr_getI (pc := 76) hV 15 dX12_readLook_76 fX12_200 rfl rfl rfl (by decide) ?_
            have t132 := zx_g15 hσ73
            have t133 : σ73 0 15 = σ11 0 15 := by rw [eσ73]; exact zq_up_ne (by omega)
            refine zr_iconst (pc := 79) hV 1 dX12_readLook_79 rfl ?_
            refine zr_iadd (pc := 80) hV dX12_readLook_80 ?_
            refine zr_putI (pc := 81) hV 15 dX12_readLook_81 fX12_200 rfl rfl rfl rfl (by decide) (fun σ81 eσ81 => ?_)
            have hσ81 : zx_T σ81 := zx_u15 eσ81 hσ73 (by omega)
            have hFσ81 : ∀ a i : Int, (¬ (a = 0 ∧ i = 15) ∧ ¬ (a = 2 ∧ 12 * o ≤ i ∧ i < 12 * o + 12)) → σ81 a i = σ a i := fun a i h => by rw [eσ81, zq_up_ne h.1]; exact hFσ73 a i h
            refine zr_iinc (pc := 84) hV [some (ZR 0), some (ZI o), some (ZI (x2_2 + 1)), some (ZI r11), some (ZI 0)] (x2_2 + 1) dX12_readLook_84 rfl rfl (by decide) rfl rfl ?_
            refine zr_goto (pc := 87) hV 2 dX12_readLook_87 (by decide) ?_
            refine zr_sub (pc := 2) hV [some (ZR 0), some (ZI o), some (ZI (x2_2 + 1)), none, none] (⟨rfl, rfl, rfl, trivial⟩) ?_
            exact ih2 (x2_2 + 1) σ81 (by omega) hσ81 hFσ81 (by omega)
          · exfalso; omega
  exact L2 (12 - (0 : Int) + 1 : Int).toNat 0 σ (by omega) hσ (fun a i _ => rfl) (by omega)
set_option maxHeartbeats 800000 in
theorem c_X12_readField {σ : zq_S} (hσ : zx_T σ) (o : Int) (q0 : 0 ≤ o ∧ o ≤ 20) : zq_C zx_w yX12_readField cX12_readField 3 (some .int) 2 46 41 41 [ZR 0, ZI o] σ (zq_pi (fun r τ => zx_T τ ∧ (∀ a i : Int, (¬ (a = 0 ∧ i = 15)) → τ a i = σ a i) ∧ (-1 ≤ r ∧ r ≤ 3) ∧ zq_hid (σ 0 15 < σ 0 14 ∧ σ 10 (σ 0 15) ≠ 32 ∧ σ 10 (σ 0 15) ≠ 105 → r ≠ 3))) := by
  refine zq_C_of (by decide) (Nat.le_refl _) (Nat.le_of_ble_eq_true rfl) [some (ZR 0), some (ZI o), none] rfl (fun V hV => ?_)
  have z14 := zx_g14 hσ
  show V 0 [some (ZR 0), some (ZI o), none] [] 41 σ
  refine zr_aload_n (pc := 0) hV dX12_readField_0 rfl rfl ?_
  refine zr_callVi (pc := 1) hV [] (st := []) (c_X12_next (σ := σ) hσ ) dX12_readField_1 mX12_203 rfl (by decide) (by decide) (Nat.le_of_ble_eq_true rfl) (Nat.le_refl _) (fun r1 σ1 hr1 pσ1 => ?_)
  obtain ⟨hσ1, hfσ1, pσ1, wσ1⟩ := pσ1
  have hFσ1 : ∀ a i : Int, (¬ (a = 0 ∧ i = 15)) → σ1 a i = σ a i := fun a i h => (hfσ1 a i h)
  have t1 := zx_g14 hσ
  have t2 := zx_g15 hσ
  have t3 := zx_g15 hσ1
  have zc : σ1 0 15 = σ 0 15 → σ 10 (σ1 0 15) = σ 10 (σ 0 15) := fun h => by rw [h]
  have u1 : (σ1 0 15 < σ 0 14 → r1 = σ 10 (σ1 0 15) ∧ r1 ≠ 32) ∧ (σ 0 15 < σ 0 14 ∧ σ 10 (σ 0 15) ≠ 32 → σ1 0 15 = σ 0 15) := wσ1
  refine zr_callSp (pc := 4) hV [ZI r1] (st := []) (c_X12_fieldLetter (σ := σ1) r1 (by omega)) dX12_readField_4 mX12_225 (by decide) (Nat.le_of_ble_eq_true rfl) (Nat.le_refl _) (fun r4 hr4 pr4 => ?_)
  refine zr_istore_n (pc := 7) hV [some (ZR 0), some (ZI o), some (ZI r4)] dX12_readField_7 rfl (by decide) rfl rfl ?_
  refine zr_iload_n (pc := 8) hV dX12_readField_8 rfl rfl ?_
  refine zr_if_lt (pc := 9) hV 21 dX12_readField_9 (by decide) (by omega) (fun c4 => ?_) (fun c4 => ?_)
  · show V 21 [some (ZR 0), some (ZI o), some (ZI r4)] [] 41 σ1
    refine zr_iconst (pc := 21) hV (-1) dX12_readField_21 rfl ?_
    exact zr_iret (pc := 22) hV dX12_readField_22 rfl rfl ⟨_, rfl, ⟨by decide, by decide⟩, hσ1, hFσ1, (by omega), (show σ 0 15 < σ 0 14 ∧ σ 10 (σ 0 15) ≠ 32 ∧ σ 10 (σ 0 15) ≠ 105 → ((-1) : Int) ≠ 3 from (by omega))⟩
  · show V 12 [some (ZR 0), some (ZI o), some (ZI r4)] [] 41 σ1
    refine zr_aload_n (pc := 12) hV dX12_readField_12 rfl rfl ?_
    refine zr_iload_n (pc := 13) hV dX12_readField_13 rfl rfl ?_
    refine zr_iload_n (pc := 14) hV dX12_readField_14 rfl rfl ?_
    refine zr_callVp (pc := 15) hV [ZI o, ZI r4] (st := []) (c_X12_hasField (σ := σ1) hσ1 o r4 (by omega) (by omega)) dX12_readField_15 mX12_188 rfl (by decide) (by decide) (Nat.le_of_ble_eq_true rfl) (Nat.le_refl _) (fun r15 hr15 pr15 => ?_)
    have t5 := zx_g2 hσ1
    have t6 : σ1 0 2 = σ 0 2 := hfσ1 _ _ (by omega)
    refine zr_if_ne (pc := 18) hV 23 dX12_readField_18 (by decide) (by omega) (fun c7 => ?_) (fun c7 => ?_)
    · show V 23 [some (ZR 0), some (ZI o), some (ZI r4)] [] 41 σ1
      refine zr_aload_n (pc := 23) hV dX12_readField_23 rfl rfl ?_
      refine zr_dup (pc := 24) hV dX12_readField_24 (fun _ => rfl) ?_
      refine zr_getI (pc := 25) hV 15 dX12_readField_25 fX12_200 rfl rfl rfl (by decide) ?_
      have t8 := zx_g15 hσ1
      refine zr_iconst (pc := 28) hV 1 dX12_readField_28 rfl ?_
      refine zr_iadd (pc := 29) hV dX12_readField_29 ?_
      refine zr_putI (pc := 30) hV 15 dX12_readField_30 fX12_200 rfl rfl rfl rfl (by decide) (fun σ30 eσ30 => ?_)
      have hσ30 : zx_T σ30 := zx_u15 eσ30 hσ1 (by omega)
      have hFσ30 : ∀ a i : Int, (¬ (a = 0 ∧ i = 15)) → σ30 a i = σ a i := fun a i h => by rw [eσ30, zq_up_ne h]; exact hFσ1 a i h
      refine zr_iload_n (pc := 33) hV dX12_readField_33 rfl rfl ?_
      exact zr_iret (pc := 34) hV dX12_readField_34 rfl rfl ⟨_, rfl, (by omega), hσ30, hFσ30, (by omega), (show σ 0 15 < σ 0 14 ∧ σ 10 (σ 0 15) ≠ 32 ∧ σ 10 (σ 0 15) ≠ 105 → r4 ≠ 3 from (by omega))⟩
    · show V 21 [some (ZR 0), some (ZI o), some (ZI r4)] [] 41 σ1
      refine zr_iconst (pc := 21) hV (-1) dX12_readField_21 rfl ?_
      exact zr_iret (pc := 22) hV dX12_readField_22 rfl rfl ⟨_, rfl, ⟨by decide, by decide⟩, hσ1, hFσ1, (by omega), (show σ 0 15 < σ 0 14 ∧ σ 10 (σ 0 15) ≠ 32 ∧ σ 10 (σ 0 15) ≠ 105 → ((-1) : Int) ≠ 3 from (by omega))⟩
set_option maxHeartbeats 800000 in
theorem c_X12_readNamed {σ : zq_S} (hσ : zx_T σ) (o isTarget : Int) (q0 : 0 ≤ o ∧ o ≤ 20) (q1 : 0 ≤ isTarget ∧ isTarget ≤ 1) : zq_C zx_w yX12_readNamed cX12_readNamed 5 (some .int) 3 68 41 41 [ZR 0, ZI o, ZI isTarget] σ (zq_pi (fun r τ => zx_T τ ∧ (∀ a i : Int, (¬ (a = 0 ∧ i = 15) ∧ ¬ (a = 0 ∧ i = 17)) → τ a i = σ a i) ∧ (-1 ≤ r ∧ r ≤ 10 ∧ (isTarget = 1 → r ≠ 3 ∧ r ≤ 9)))) := by
  refine zq_C_of (by decide) (Nat.le_refl _) (Nat.le_of_ble_eq_true rfl) [some (ZR 0), some (ZI o), some (ZI isTarget), none, none] rfl (fun V hV => ?_)
  have z14 := zx_g14 hσ
  show V 0 [some (ZR 0), some (ZI o), some (ZI isTarget), none, none] [] 41 σ
  refine zr_aload_n (pc := 0) hV dX12_readNamed_0 rfl rfl ?_
  refine zr_callVi (pc := 1) hV [] (st := []) (c_X12_next (σ := σ) hσ ) dX12_readNamed_1 mX12_203 rfl (by decide) (by decide) (Nat.le_of_ble_eq_true rfl) (Nat.le_refl _) (fun r1 σ1 hr1 pσ1 => ?_)
  obtain ⟨hσ1, hfσ1, pσ1, wσ1⟩ := pσ1
  have hFσ1 : ∀ a i : Int, (¬ (a = 0 ∧ i = 15) ∧ ¬ (a = 0 ∧ i = 17)) → σ1 a i = σ a i := fun a i h => (hfσ1 a i h.1)
  have t1 := zx_g14 hσ
  have t2 := zx_g15 hσ
  have t3 := zx_g15 hσ1
  have zf := hfσ1 10 (σ1 0 15) (by omega)
  refine zr_istore_n (pc := 4) hV [some (ZR 0), some (ZI o), some (ZI isTarget), some (ZI r1), none] dX12_readNamed_4 rfl (by decide) rfl rfl ?_
  refine zr_aload_n (pc := 5) hV dX12_readNamed_5 rfl rfl ?_
  refine zr_iconst (pc := 6) hV 0 dX12_readNamed_6 rfl ?_
  refine zr_putI (pc := 7) hV 17 dX12_readNamed_7 fX12_228 rfl rfl rfl rfl (by decide) (fun σ7 eσ7 => ?_)
  have hσ7 : zx_T σ7 := zx_u17 eσ7 hσ1 (by omega)
  have hFσ7 : ∀ a i : Int, (¬ (a = 0 ∧ i = 15) ∧ ¬ (a = 0 ∧ i = 17)) → σ7 a i = σ a i := fun a i h => by rw [eσ7, zq_up_ne h.2]; exact hFσ1 a i h
  refine zr_iload_n (pc := 10) hV dX12_readNamed_10 rfl rfl ?_
  refine zr_bipush (pc := 11) hV 122 dX12_readNamed_11 (by decide) ?_
  refine zr_icmp_eq (pc := 13) hV 22 dX12_readNamed_13 (by decide) (by omega) ⟨by decide, by decide⟩ (fun c4 => ?_) (fun c4 => ?_)
  · show V 22 [some (ZR 0), some (ZI o), some (ZI isTarget), some (ZI r1), none] [] 41 σ7
    refine zr_aload_n (pc := 22) hV dX12_readNamed_22 rfl rfl ?_
    refine zr_dup (pc := 23) hV dX12_readNamed_23 (fun _ => rfl) ?_
    refine zr_getI (pc := 24) hV 15 dX12_readNamed_24 fX12_200 rfl rfl rfl (by decide) ?_
    have t5 := zx_g15 hσ7
    have t6 : σ7 0 15 = σ1 0 15 := by rw [eσ7]; exact zq_up_ne (by omega)
    refine zr_iconst (pc := 27) hV 1 dX12_readNamed_27 rfl ?_
    refine zr_iadd (pc := 28) hV dX12_readNamed_28 ?_
    refine zr_putI (pc := 29) hV 15 dX12_readNamed_29 fX12_200 rfl rfl rfl rfl (by decide) (fun σ29 eσ29 => ?_)
    have hσ29 : zx_T σ29 := zx_u15 eσ29 hσ7 (by omega)
    have hFσ29 : ∀ a i : Int, (¬ (a = 0 ∧ i = 15) ∧ ¬ (a = 0 ∧ i = 17)) → σ29 a i = σ a i := fun a i h => by rw [eσ29, zq_up_ne h.1]; exact hFσ7 a i h
    refine zr_iload_n (pc := 32) hV dX12_readNamed_32 rfl rfl ?_
    refine zr_bipush (pc := 33) hV 122 dX12_readNamed_33 (by decide) ?_
    refine zr_icmp_ne (pc := 35) hV 42 dX12_readNamed_35 (by decide) (by omega) ⟨by decide, by decide⟩ (fun c7 => ?_) (fun c7 => ?_)
    · exfalso; omega
    · show V 38 [some (ZR 0), some (ZI o), some (ZI isTarget), some (ZI r1), none] [] 41 σ29
      refine zr_iconst (pc := 38) hV 4 dX12_readNamed_38 rfl ?_
      refine zr_goto (pc := 39) hV 43 dX12_readNamed_39 (by decide) ?_
      show V 43 [some (ZR 0), some (ZI o), some (ZI isTarget), some (ZI r1), none] [ZI 4] 41 σ29
      exact zr_iret (pc := 43) hV dX12_readNamed_43 rfl rfl ⟨_, rfl, ⟨by decide, by decide⟩, hσ29, hFσ29, (by omega)⟩
  · show V 16 [some (ZR 0), some (ZI o), some (ZI isTarget), some (ZI r1), none] [] 41 σ7
    refine zr_iload_n (pc := 16) hV dX12_readNamed_16 rfl rfl ?_
    refine zr_bipush (pc := 17) hV 112 dX12_readNamed_17 (by decide) ?_
    refine zr_icmp_ne (pc := 19) hV 44 dX12_readNamed_19 (by decide) (by omega) ⟨by decide, by decide⟩ (fun c8 => ?_) (fun c8 => ?_)
    · show V 44 [some (ZR 0), some (ZI o), some (ZI isTarget), some (ZI r1), none] [] 41 σ7
      refine zr_iload_n (pc := 44) hV dX12_readNamed_44 rfl rfl ?_
      refine zr_bipush (pc := 45) hV 91 dX12_readNamed_45 (by decide) ?_
      refine zr_icmp_ne (pc := 47) hV 91 dX12_readNamed_47 (by decide) (by omega) ⟨by decide, by decide⟩ (fun c9 => ?_) (fun c9 => ?_)
      · show V 91 [some (ZR 0), some (ZI o), some (ZI isTarget), some (ZI r1), none] [] 41 σ7
        refine zr_iload_n (pc := 91) hV dX12_readNamed_91 rfl rfl ?_
        refine zr_callSp (pc := 92) hV [ZI r1] (st := []) (c_X12_fieldLetter (σ := σ7) r1 (by omega)) dX12_readNamed_92 mX12_225 (by decide) (Nat.le_of_ble_eq_true rfl) (Nat.le_refl _) (fun r92 hr92 pr92 => ?_)
        refine zr_if_lt (pc := 95) hV 118 dX12_readNamed_95 (by decide) (by omega) (fun c10 => ?_) (fun c10 => ?_)
        · show V 118 [some (ZR 0), some (ZI o), some (ZI isTarget), some (ZI r1), none] [] 41 σ7
          refine zr_iload_n (pc := 118) hV dX12_readNamed_118 rfl rfl ?_
          refine zr_if_ne (pc := 119) hV 136 dX12_readNamed_119 (by decide) (by omega) (fun c11 => ?_) (fun c11 => ?_)
          · show V 136 [some (ZR 0), some (ZI o), some (ZI isTarget), some (ZI r1), none] [] 41 σ7
            refine zr_iconst (pc := 136) hV (-1) dX12_readNamed_136 rfl ?_
            exact zr_iret (pc := 137) hV dX12_readNamed_137 rfl rfl ⟨_, rfl, ⟨by decide, by decide⟩, hσ7, hFσ7, (by omega)⟩
          · show V 122 [some (ZR 0), some (ZI o), some (ZI isTarget), some (ZI r1), none] [] 41 σ7
            refine zr_iload_n (pc := 122) hV dX12_readNamed_122 rfl rfl ?_
            refine zr_i2l (pc := 123) hV dX12_readNamed_123 (by omega) ?_
            refine zr_ldc2 (pc := 124) (v := 48) hV 48 dX12_readNamed_124 kX12_207 (by decide) ?_
            refine zr_ldc2 (pc := 127) (v := 57) hV 57 dX12_readNamed_127 kX12_209 (by decide) ?_
            refine zr_callSp (pc := 130) hV [ZL r1, ZL 48, ZL 57] (st := []) (c_X12_in (σ := σ7) r1 48 57 (by omega) (by omega) (by omega)) dX12_readNamed_130 mX12_170 (by decide) (Nat.le_of_ble_eq_true rfl) (Nat.le_refl _) (fun r130 hr130 pr130 => ?_)
            refine zr_if_ne (pc := 133) hV 138 dX12_readNamed_133 (by decide) (by omega) (fun c12 => ?_) (fun c12 => ?_)
            · show V 138 [some (ZR 0), some (ZI o), some (ZI isTarget), some (ZI r1), none] [] 41 σ7
              refine zr_aload_n (pc := 138) hV dX12_readNamed_138 rfl rfl ?_
              refine zr_aload_n (pc := 139) hV dX12_readNamed_139 rfl rfl ?_
              refine zr_sipush (pc := 140) hV 255 dX12_readNamed_140 (by decide) ?_
              refine zr_callVi (pc := 143) hV [ZI 255] (st := [ZR 0]) (c_X12_number (σ := σ7) hσ7 255 (by omega)) dX12_readNamed_143 mX12_238 rfl (by decide) (by decide) (Nat.le_of_ble_eq_true rfl) (Nat.le_refl _) (fun r143 σ143 hr143 pσ143 => ?_)
              obtain ⟨hσ143, hfσ143, pσ143⟩ := pσ143
              have hFσ143 : ∀ a i : Int, (¬ (a = 0 ∧ i = 15) ∧ ¬ (a = 0 ∧ i = 17)) → σ143 a i = σ a i := fun a i h => (hfσ143 a i h.1).trans (hFσ7 a i h)
              have t13 := zx_g15 hσ7
              have t14 : σ7 0 15 = σ1 0 15 := by rw [eσ7]; exact zq_up_ne (by omega)
              have t15 := zx_g15 hσ143
              refine zr_putI (pc := 146) hV 17 dX12_readNamed_146 fX12_228 rfl rfl rfl rfl (by decide) (fun σ146 eσ146 => ?_)
              have hσ146 : zx_T σ146 := zx_u17 eσ146 hσ143 (by omega)
              have hFσ146 : ∀ a i : Int, (¬ (a = 0 ∧ i = 15) ∧ ¬ (a = 0 ∧ i = 17)) → σ146 a i = σ a i := fun a i h => by rw [eσ146, zq_up_ne h.2]; exact hFσ143 a i h
              refine zr_aload_n (pc := 149) hV dX12_readNamed_149 rfl rfl ?_
              refine zr_getI (pc := 150) hV 17 dX12_readNamed_150 fX12_228 rfl rfl rfl (by decide) ?_
              have t16 := zx_g17 hσ146
              have t17 : σ146 0 17 = r143 := by rw [eσ146]; exact zq_up_same _ _ _ _
              refine zr_if_ge (pc := 153) hV 160 dX12_readNamed_153 (by decide) (by omega) (fun c18 => ?_) (fun c18 => ?_)
              · show V 160 [some (ZR 0), some (ZI o), some (ZI isTarget), some (ZI r1), none] [] 41 σ146
                refine zr_bipush (pc := 160) hV 10 dX12_readNamed_160 (by decide) ?_
                show V 162 [some (ZR 0), some (ZI o), some (ZI isTarget), some (ZI r1), none] [ZI 10] 41 σ146
                exact zr_iret (pc := 162) hV dX12_readNamed_162 rfl rfl ⟨_, rfl, ⟨by decide, by decide⟩, hσ146, hFσ146, (by omega)⟩
              · show V 156 [some (ZR 0), some (ZI o), some (ZI isTarget), some (ZI r1), none] [] 41 σ146
                refine zr_iconst (pc := 156) hV (-1) dX12_readNamed_156 rfl ?_
                refine zr_goto (pc := 157) hV 162 dX12_readNamed_157 (by decide) ?_
                show V 162 [some (ZR 0), some (ZI o), some (ZI isTarget), some (ZI r1), none] [ZI (-1)] 41 σ146
                exact zr_iret (pc := 162) hV dX12_readNamed_162 rfl rfl ⟨_, rfl, ⟨by decide, by decide⟩, hσ146, hFσ146, (by omega)⟩
            · show V 136 [some (ZR 0), some (ZI o), some (ZI isTarget), some (ZI r1), none] [] 41 σ7
              refine zr_iconst (pc := 136) hV (-1) dX12_readNamed_136 rfl ?_
              exact zr_iret (pc := 137) hV dX12_readNamed_137 rfl rfl ⟨_, rfl, ⟨by decide, by decide⟩, hσ7, hFσ7, (by omega)⟩
        · show V 98 [some (ZR 0), some (ZI o), some (ZI isTarget), some (ZI r1), none] [] 41 σ7
          refine zr_iload_n (pc := 98) hV dX12_readNamed_98 rfl rfl ?_
          refine zr_if_eq (pc := 99) hV 112 dX12_readNamed_99 (by decide) (by omega) (fun c19 => ?_) (fun c19 => ?_)
          · show V 112 [some (ZR 0), some (ZI o), some (ZI isTarget), some (ZI r1), none] [] 41 σ7
            refine zr_aload_n (pc := 112) hV dX12_readNamed_112 rfl rfl ?_
            refine zr_iload_n (pc := 113) hV dX12_readNamed_113 rfl rfl ?_
            have zh : σ7 0 15 = σ1 0 15 := by rw [eσ7]; exact zq_up_ne (by omega)
            have zg : σ7 10 (σ7 0 15) = σ1 10 (σ1 0 15) := by rw [zh, eσ7]; exact zq_up_ne (by omega)
            refine zr_callVi (pc := 114) hV [ZI o] (st := []) (c_X12_readField (σ := σ7) hσ7 o (by omega)) dX12_readNamed_114 mX12_231 rfl (by decide) (by decide) (Nat.le_of_ble_eq_true rfl) (Nat.le_refl _) (fun r114 σ114 hr114 pσ114 => ?_)
            obtain ⟨hσ114, hfσ114, pσ114, wσ114⟩ := pσ114
            have hFσ114 : ∀ a i : Int, (¬ (a = 0 ∧ i = 15) ∧ ¬ (a = 0 ∧ i = 17)) → σ114 a i = σ a i := fun a i h => (hfσ114 a i h.1).trans (hFσ7 a i h)
            have t20 := zx_g14 hσ7
            have t21 : σ7 0 14 = σ1 0 14 := by rw [eσ7]; exact zq_up_ne (by omega)
            have t22 : σ1 0 14 = σ 0 14 := hfσ1 _ _ (by omega)
            have t23 := zx_g15 hσ7
            have t24 : σ7 0 15 = σ1 0 15 := by rw [eσ7]; exact zq_up_ne (by omega)
            show V 117 [some (ZR 0), some (ZI o), some (ZI isTarget), some (ZI r1), none] [ZI r114] 41 σ114
            have u1 : (σ1 0 15 < σ 0 14 → r1 = σ 10 (σ1 0 15) ∧ r1 ≠ 32) ∧ (σ 0 15 < σ 0 14 ∧ σ 10 (σ 0 15) ≠ 32 → σ1 0 15 = σ 0 15) := wσ1
            have u2 : σ7 0 15 < σ7 0 14 ∧ σ7 10 (σ7 0 15) ≠ 32 ∧ σ7 10 (σ7 0 15) ≠ 105 → r114 ≠ 3 := wσ114
            exact zr_iret (pc := 117) hV dX12_readNamed_117 rfl rfl ⟨_, rfl, (by omega), hσ114, hFσ114, (by omega)⟩
          · show V 102 [some (ZR 0), some (ZI o), some (ZI isTarget), some (ZI r1), none] [] 41 σ7
            refine zr_iload_n (pc := 102) hV dX12_readNamed_102 rfl rfl ?_
            refine zr_bipush (pc := 103) hV 105 dX12_readNamed_103 (by decide) ?_
            refine zr_icmp_ne (pc := 105) hV 112 dX12_readNamed_105 (by decide) (by omega) ⟨by decide, by decide⟩ (fun c25 => ?_) (fun c25 => ?_)
            · show V 112 [some (ZR 0), some (ZI o), some (ZI isTarget), some (ZI r1), none] [] 41 σ7
              refine zr_aload_n (pc := 112) hV dX12_readNamed_112 rfl rfl ?_
              refine zr_iload_n (pc := 113) hV dX12_readNamed_113 rfl rfl ?_
              have zh : σ7 0 15 = σ1 0 15 := by rw [eσ7]; exact zq_up_ne (by omega)
              have zg : σ7 10 (σ7 0 15) = σ1 10 (σ1 0 15) := by rw [zh, eσ7]; exact zq_up_ne (by omega)
              refine zr_callVi (pc := 114) hV [ZI o] (st := []) (c_X12_readField (σ := σ7) hσ7 o (by omega)) dX12_readNamed_114 mX12_231 rfl (by decide) (by decide) (Nat.le_of_ble_eq_true rfl) (Nat.le_refl _) (fun r114 σ114 hr114 pσ114 => ?_)
              obtain ⟨hσ114, hfσ114, pσ114, wσ114⟩ := pσ114
              have hFσ114 : ∀ a i : Int, (¬ (a = 0 ∧ i = 15) ∧ ¬ (a = 0 ∧ i = 17)) → σ114 a i = σ a i := fun a i h => (hfσ114 a i h.1).trans (hFσ7 a i h)
              have t26 := zx_g14 hσ7
              have t27 : σ7 0 14 = σ1 0 14 := by rw [eσ7]; exact zq_up_ne (by omega)
              have t28 : σ1 0 14 = σ 0 14 := hfσ1 _ _ (by omega)
              have t29 := zx_g15 hσ7
              have t30 : σ7 0 15 = σ1 0 15 := by rw [eσ7]; exact zq_up_ne (by omega)
              show V 117 [some (ZR 0), some (ZI o), some (ZI isTarget), some (ZI r1), none] [ZI r114] 41 σ114
              have u1 : (σ1 0 15 < σ 0 14 → r1 = σ 10 (σ1 0 15) ∧ r1 ≠ 32) ∧ (σ 0 15 < σ 0 14 ∧ σ 10 (σ 0 15) ≠ 32 → σ1 0 15 = σ 0 15) := wσ1
              have u2 : σ7 0 15 < σ7 0 14 ∧ σ7 10 (σ7 0 15) ≠ 32 ∧ σ7 10 (σ7 0 15) ≠ 105 → r114 ≠ 3 := wσ114
              exact zr_iret (pc := 117) hV dX12_readNamed_117 rfl rfl ⟨_, rfl, (by omega), hσ114, hFσ114, (by omega)⟩
            · show V 108 [some (ZR 0), some (ZI o), some (ZI isTarget), some (ZI r1), none] [] 41 σ7
              refine zr_iconst (pc := 108) hV (-1) dX12_readNamed_108 rfl ?_
              refine zr_goto (pc := 109) hV 117 dX12_readNamed_109 (by decide) ?_
              show V 117 [some (ZR 0), some (ZI o), some (ZI isTarget), some (ZI r1), none] [ZI (-1)] 41 σ7
              exact zr_iret (pc := 117) hV dX12_readNamed_117 rfl rfl ⟨_, rfl, ⟨by decide, by decide⟩, hσ7, hFσ7, (by omega)⟩
      · show V 50 [some (ZR 0), some (ZI o), some (ZI isTarget), some (ZI r1), none] [] 41 σ7
        refine zr_aload_n (pc := 50) hV dX12_readNamed_50 rfl rfl ?_
        refine zr_dup (pc := 51) hV dX12_readNamed_51 (fun _ => rfl) ?_
        refine zr_getI (pc := 52) hV 15 dX12_readNamed_52 fX12_200 rfl rfl rfl (by decide) ?_
        have t31 := zx_g15 hσ7
        have t32 : σ7 0 15 = σ1 0 15 := by rw [eσ7]; exact zq_up_ne (by omega)
        refine zr_iconst (pc := 55) hV 1 dX12_readNamed_55 rfl ?_
        refine zr_iadd (pc := 56) hV dX12_readNamed_56 ?_
        refine zr_putI (pc := 57) hV 15 dX12_readNamed_57 fX12_200 rfl rfl rfl rfl (by decide) (fun σ57 eσ57 => ?_)
        have hσ57 : zx_T σ57 := zx_u15 eσ57 hσ7 (by omega)
        have hFσ57 : ∀ a i : Int, (¬ (a = 0 ∧ i = 15) ∧ ¬ (a = 0 ∧ i = 17)) → σ57 a i = σ a i := fun a i h => by rw [eσ57, zq_up_ne h.1]; exact hFσ7 a i h
        refine zr_aload_n (pc := 60) hV dX12_readNamed_60 rfl rfl ?_
        refine zr_iload_n (pc := 61) hV dX12_readNamed_61 rfl rfl ?_
        refine zr_callVi (pc := 62) hV [ZI o] (st := []) (c_X12_readField (σ := σ57) hσ57 o (by omega)) dX12_readNamed_62 mX12_231 rfl (by decide) (by decide) (Nat.le_of_ble_eq_true rfl) (Nat.le_refl _) (fun r62 σ62 hr62 pσ62 => ?_)
        obtain ⟨hσ62, hfσ62, pσ62, wσ62⟩ := pσ62
        have hFσ62 : ∀ a i : Int, (¬ (a = 0 ∧ i = 15) ∧ ¬ (a = 0 ∧ i = 17)) → σ62 a i = σ a i := fun a i h => (hfσ62 a i h.1).trans (hFσ57 a i h)
        have t33 := zx_g14 hσ57
        have t34 : σ57 0 14 = σ7 0 14 := by rw [eσ57]; exact zq_up_ne (by omega)
        have t35 : σ7 0 14 = σ1 0 14 := by rw [eσ7]; exact zq_up_ne (by omega)
        have t36 : σ1 0 14 = σ 0 14 := hfσ1 _ _ (by omega)
        have t37 := zx_g15 hσ57
        have t38 : σ57 0 15 = (σ7 0 15) + 1 := by rw [eσ57]; exact zq_up_same _ _ _ _
        refine zr_istore (pc := 65) hV [some (ZR 0), some (ZI o), some (ZI isTarget), some (ZI r1), some (ZI r62)] dX12_readNamed_65 (by decide) rfl rfl ?_
        refine zr_iload (pc := 67) hV dX12_readNamed_67 rfl ?_
        refine zr_if_lt (pc := 69) hV 81 dX12_readNamed_69 (by decide) (by omega) (fun c39 => ?_) (fun c39 => ?_)
        · show V 81 [some (ZR 0), some (ZI o), some (ZI isTarget), some (ZI r1), some (ZI r62)] [] 41 σ62
          refine zr_iconst (pc := 81) hV (-1) dX12_readNamed_81 rfl ?_
          refine zr_goto (pc := 82) hV 90 dX12_readNamed_82 (by decide) ?_
          show V 90 [some (ZR 0), some (ZI o), some (ZI isTarget), some (ZI r1), some (ZI r62)] [ZI (-1)] 41 σ62
          exact zr_iret (pc := 90) hV dX12_readNamed_90 rfl rfl ⟨_, rfl, ⟨by decide, by decide⟩, hσ62, hFσ62, (by omega)⟩
        · show V 72 [some (ZR 0), some (ZI o), some (ZI isTarget), some (ZI r1), some (ZI r62)] [] 41 σ62
          refine zr_aload_n (pc := 72) hV dX12_readNamed_72 rfl rfl ?_
          refine zr_bipush (pc := 73) hV 93 dX12_readNamed_73 (by decide) ?_
          refine zr_callVi (pc := 75) hV [ZI 93] (st := []) (c_X12_takes (σ := σ62) hσ62 93 (by omega)) dX12_readNamed_75 mX12_234 rfl (by decide) (by decide) (Nat.le_of_ble_eq_true rfl) (Nat.le_refl _) (fun r75 σ75 hr75 pσ75 => ?_)
          obtain ⟨hσ75, hfσ75, pσ75⟩ := pσ75
          have hFσ75 : ∀ a i : Int, (¬ (a = 0 ∧ i = 15) ∧ ¬ (a = 0 ∧ i = 17)) → σ75 a i = σ a i := fun a i h => (hfσ75 a i h.1).trans (hFσ62 a i h)
          have t40 := zx_g15 hσ62
          have t41 := zx_g15 hσ75
          refine zr_if_ne (pc := 78) hV 85 dX12_readNamed_78 (by decide) (by omega) (fun c42 => ?_) (fun c42 => ?_)
          · show V 85 [some (ZR 0), some (ZI o), some (ZI isTarget), some (ZI r1), some (ZI r62)] [] 41 σ75
            refine zr_bipush (pc := 85) hV 6 dX12_readNamed_85 (by decide) ?_
            refine zr_iload (pc := 87) hV dX12_readNamed_87 rfl ?_
            refine zr_iadd (pc := 89) hV dX12_readNamed_89 ?_
            show V 90 [some (ZR 0), some (ZI o), some (ZI isTarget), some (ZI r1), some (ZI r62)] [ZI (6 + r62)] 41 σ75
            exact zr_iret (pc := 90) hV dX12_readNamed_90 rfl rfl ⟨_, rfl, (by omega), hσ75, hFσ75, (by omega)⟩
          · show V 81 [some (ZR 0), some (ZI o), some (ZI isTarget), some (ZI r1), some (ZI r62)] [] 41 σ75
            refine zr_iconst (pc := 81) hV (-1) dX12_readNamed_81 rfl ?_
            refine zr_goto (pc := 82) hV 90 dX12_readNamed_82 (by decide) ?_
            show V 90 [some (ZR 0), some (ZI o), some (ZI isTarget), some (ZI r1), some (ZI r62)] [ZI (-1)] 41 σ75
            exact zr_iret (pc := 90) hV dX12_readNamed_90 rfl rfl ⟨_, rfl, ⟨by decide, by decide⟩, hσ75, hFσ75, (by omega)⟩
    · show V 22 [some (ZR 0), some (ZI o), some (ZI isTarget), some (ZI r1), none] [] 41 σ7
      refine zr_aload_n (pc := 22) hV dX12_readNamed_22 rfl rfl ?_
      refine zr_dup (pc := 23) hV dX12_readNamed_23 (fun _ => rfl) ?_
      refine zr_getI (pc := 24) hV 15 dX12_readNamed_24 fX12_200 rfl rfl rfl (by decide) ?_
      have t43 := zx_g15 hσ7
      have t44 : σ7 0 15 = σ1 0 15 := by rw [eσ7]; exact zq_up_ne (by omega)
      refine zr_iconst (pc := 27) hV 1 dX12_readNamed_27 rfl ?_
      refine zr_iadd (pc := 28) hV dX12_readNamed_28 ?_
      refine zr_putI (pc := 29) hV 15 dX12_readNamed_29 fX12_200 rfl rfl rfl rfl (by decide) (fun σ29 eσ29 => ?_)
      have hσ29 : zx_T σ29 := zx_u15 eσ29 hσ7 (by omega)
      have hFσ29 : ∀ a i : Int, (¬ (a = 0 ∧ i = 15) ∧ ¬ (a = 0 ∧ i = 17)) → σ29 a i = σ a i := fun a i h => by rw [eσ29, zq_up_ne h.1]; exact hFσ7 a i h
      refine zr_iload_n (pc := 32) hV dX12_readNamed_32 rfl rfl ?_
      refine zr_bipush (pc := 33) hV 122 dX12_readNamed_33 (by decide) ?_
      refine zr_icmp_ne (pc := 35) hV 42 dX12_readNamed_35 (by decide) (by omega) ⟨by decide, by decide⟩ (fun c45 => ?_) (fun c45 => ?_)
      · show V 42 [some (ZR 0), some (ZI o), some (ZI isTarget), some (ZI r1), none] [] 41 σ29
        refine zr_iconst (pc := 42) hV 5 dX12_readNamed_42 rfl ?_
        show V 43 [some (ZR 0), some (ZI o), some (ZI isTarget), some (ZI r1), none] [ZI 5] 41 σ29
        exact zr_iret (pc := 43) hV dX12_readNamed_43 rfl rfl ⟨_, rfl, ⟨by decide, by decide⟩, hσ29, hFσ29, (by omega)⟩
      · exfalso; omega
set_option maxHeartbeats 800000 in
theorem c_X12_signOf {σ : zq_S} (c : Int) (q0 : zq_in c) : zq_C zx_w yX12_signOf cX12_signOf 1 (some .int) 0 0 41 41 [ZI c] σ (zq_pp σ (fun r => 0 ≤ r ∧ r ≤ 6 ∧ (1 ≤ r → 0 ≤ c))) := by
  refine zq_C_of (by decide) (Nat.le_refl _) (Nat.le_of_ble_eq_true rfl) [some (ZI c)] rfl (fun V hV => ?_)
  show V 0 [some (ZI c)] [] 41 σ
  refine zr_iload_n (pc := 0) hV dX12_signOf_0 rfl rfl ?_
  refine zr_bipush (pc := 1) hV 43 dX12_signOf_1 (by decide) ?_
  refine zr_icmp_ne (pc := 3) hV 10 dX12_signOf_3 (by decide) (by omega) ⟨by decide, by decide⟩ (fun c1 => ?_) (fun c1 => ?_)
  · show V 10 [some (ZI c)] [] 41 σ
    refine zr_iload_n (pc := 10) hV dX12_signOf_10 rfl rfl ?_
    refine zr_bipush (pc := 11) hV 45 dX12_signOf_11 (by decide) ?_
    refine zr_icmp_ne (pc := 13) hV 20 dX12_signOf_13 (by decide) (by omega) ⟨by decide, by decide⟩ (fun c2 => ?_) (fun c2 => ?_)
    · show V 20 [some (ZI c)] [] 41 σ
      refine zr_iload_n (pc := 20) hV dX12_signOf_20 rfl rfl ?_
      refine zr_bipush (pc := 21) hV 38 dX12_signOf_21 (by decide) ?_
      refine zr_icmp_ne (pc := 23) hV 30 dX12_signOf_23 (by decide) (by omega) ⟨by decide, by decide⟩ (fun c3 => ?_) (fun c3 => ?_)
      · show V 30 [some (ZI c)] [] 41 σ
        refine zr_iload_n (pc := 30) hV dX12_signOf_30 rfl rfl ?_
        refine zr_bipush (pc := 31) hV 124 dX12_signOf_31 (by decide) ?_
        refine zr_icmp_ne (pc := 33) hV 40 dX12_signOf_33 (by decide) (by omega) ⟨by decide, by decide⟩ (fun c4 => ?_) (fun c4 => ?_)
        · show V 40 [some (ZI c)] [] 41 σ
          refine zr_iload_n (pc := 40) hV dX12_signOf_40 rfl rfl ?_
          refine zr_bipush (pc := 41) hV 94 dX12_signOf_41 (by decide) ?_
          refine zr_icmp_ne (pc := 43) hV 50 dX12_signOf_43 (by decide) (by omega) ⟨by decide, by decide⟩ (fun c5 => ?_) (fun c5 => ?_)
          · show V 50 [some (ZI c)] [] 41 σ
            refine zr_iload_n (pc := 50) hV dX12_signOf_50 rfl rfl ?_
            refine zr_bipush (pc := 51) hV 60 dX12_signOf_51 (by decide) ?_
            refine zr_icmp_ne (pc := 53) hV 61 dX12_signOf_53 (by decide) (by omega) ⟨by decide, by decide⟩ (fun c6 => ?_) (fun c6 => ?_)
            · show V 61 [some (ZI c)] [] 41 σ
              refine zr_iconst (pc := 61) hV 0 dX12_signOf_61 rfl ?_
              show V 62 [some (ZI c)] [ZI 0] 41 σ
              exact zr_iret (pc := 62) hV dX12_signOf_62 rfl rfl ⟨rfl, _, rfl, ⟨by decide, by decide⟩, (by omega)⟩
            · show V 56 [some (ZI c)] [] 41 σ
              refine zr_bipush (pc := 56) hV 6 dX12_signOf_56 (by decide) ?_
              refine zr_goto (pc := 58) hV 62 dX12_signOf_58 (by decide) ?_
              show V 62 [some (ZI c)] [ZI 6] 41 σ
              exact zr_iret (pc := 62) hV dX12_signOf_62 rfl rfl ⟨rfl, _, rfl, ⟨by decide, by decide⟩, (by omega)⟩
          · show V 46 [some (ZI c)] [] 41 σ
            refine zr_iconst (pc := 46) hV 5 dX12_signOf_46 rfl ?_
            refine zr_goto (pc := 47) hV 62 dX12_signOf_47 (by decide) ?_
            show V 62 [some (ZI c)] [ZI 5] 41 σ
            exact zr_iret (pc := 62) hV dX12_signOf_62 rfl rfl ⟨rfl, _, rfl, ⟨by decide, by decide⟩, (by omega)⟩
        · show V 36 [some (ZI c)] [] 41 σ
          refine zr_iconst (pc := 36) hV 4 dX12_signOf_36 rfl ?_
          refine zr_goto (pc := 37) hV 62 dX12_signOf_37 (by decide) ?_
          show V 62 [some (ZI c)] [ZI 4] 41 σ
          exact zr_iret (pc := 62) hV dX12_signOf_62 rfl rfl ⟨rfl, _, rfl, ⟨by decide, by decide⟩, (by omega)⟩
      · show V 26 [some (ZI c)] [] 41 σ
        refine zr_iconst (pc := 26) hV 3 dX12_signOf_26 rfl ?_
        refine zr_goto (pc := 27) hV 62 dX12_signOf_27 (by decide) ?_
        show V 62 [some (ZI c)] [ZI 3] 41 σ
        exact zr_iret (pc := 62) hV dX12_signOf_62 rfl rfl ⟨rfl, _, rfl, ⟨by decide, by decide⟩, (by omega)⟩
    · show V 16 [some (ZI c)] [] 41 σ
      refine zr_iconst (pc := 16) hV 2 dX12_signOf_16 rfl ?_
      refine zr_goto (pc := 17) hV 62 dX12_signOf_17 (by decide) ?_
      show V 62 [some (ZI c)] [ZI 2] 41 σ
      exact zr_iret (pc := 62) hV dX12_signOf_62 rfl rfl ⟨rfl, _, rfl, ⟨by decide, by decide⟩, (by omega)⟩
  · show V 6 [some (ZI c)] [] 41 σ
    refine zr_iconst (pc := 6) hV 1 dX12_signOf_6 rfl ?_
    refine zr_goto (pc := 7) hV 62 dX12_signOf_7 (by decide) ?_
    show V 62 [some (ZI c)] [ZI 1] 41 σ
    exact zr_iret (pc := 62) hV dX12_signOf_62 rfl rfl ⟨rfl, _, rfl, ⟨by decide, by decide⟩, (by omega)⟩
set_option maxHeartbeats 800000 in
theorem c_X12_readAct {σ : zq_S} (hσ : zx_T σ) (o n : Int) (q0 : 0 ≤ o ∧ o ≤ 20) (q1 : 0 ≤ n ∧ n ≤ 2) : zq_C zx_w yX12_readAct cX12_readAct 9 (some .boolean) 4 92 41 41 [ZR 0, ZI o, ZI n] σ (zq_pi (fun r τ => zx_T τ ∧ (∀ a i : Int, (¬ (a = 0 ∧ i = 15) ∧ ¬ (a = 0 ∧ i = 17) ∧ ¬ (a = 6 ∧ 18 * o + 6 * n ≤ i ∧ i < 18 * o + 6 * n + 6)) → τ a i = σ a i) ∧ ((r = 0 ∨ r = 1) ∧ (r = 1 → 0 ≤ τ 6 (18 * o + 6 * n + 4))))) := by
  refine zq_C_of (by decide) (Nat.le_refl _) (Nat.le_of_ble_eq_true rfl) [some (ZR 0), some (ZI o), some (ZI n), none, none, none, none, none, none] rfl (fun V hV => ?_)
  show V 0 [some (ZR 0), some (ZI o), some (ZI n), none, none, none, none, none, none] [] 41 σ
  refine zr_bipush (pc := 0) hV 18 dX12_readAct_0 (by decide) ?_
  refine zr_iload_n (pc := 2) hV dX12_readAct_2 rfl rfl ?_
  refine zr_imul (pc := 3) hV dX12_readAct_3 ?_
  refine zr_bipush (pc := 4) hV 6 dX12_readAct_4 (by decide) ?_
  refine zr_iload_n (pc := 6) hV dX12_readAct_6 rfl rfl ?_
  refine zr_imul (pc := 7) hV dX12_readAct_7 ?_
  refine zr_iadd (pc := 8) hV dX12_readAct_8 ?_
  refine zr_istore_n (pc := 9) hV [some (ZR 0), some (ZI o), some (ZI n), some (ZI ((18 * o) + (6 * n))), none, none, none, none, none] dX12_readAct_9 rfl (by decide) rfl rfl ?_
  refine zr_aload_n (pc := 10) hV dX12_readAct_10 rfl rfl ?_
  refine zr_iload_n (pc := 11) hV dX12_readAct_11 rfl rfl ?_
  refine zr_iconst (pc := 12) hV 1 dX12_readAct_12 rfl ?_
  refine zr_callVi (pc := 13) hV [ZI o, ZI 1] (st := []) (c_X12_readNamed (σ := σ) hσ o 1 (by omega) (by omega)) dX12_readAct_13 mX12_241 rfl (by decide) (by decide) (Nat.le_of_ble_eq_true rfl) (Nat.le_refl _) (fun r13 σ13 hr13 pσ13 => ?_)
  obtain ⟨hσ13, hfσ13, pσ13⟩ := pσ13
  have hFσ13 : ∀ a i : Int, (¬ (a = 0 ∧ i = 15) ∧ ¬ (a = 0 ∧ i = 17) ∧ ¬ (a = 6 ∧ 18 * o + 6 * n ≤ i ∧ i < 18 * o + 6 * n + 6)) → σ13 a i = σ a i := fun a i h => (hfσ13 a i ⟨h.1, h.2.1⟩)
  refine zr_istore (pc := 16) hV [some (ZR 0), some (ZI o), some (ZI n), some (ZI ((18 * o) + (6 * n))), some (ZI r13), none, none, none, none] dX12_readAct_16 (by decide) rfl rfl ?_
  refine zr_iload (pc := 18) hV dX12_readAct_18 rfl ?_
  refine zr_if_lt (pc := 20) hV 32 dX12_readAct_20 (by decide) (by omega) (fun c1 => ?_) (fun c1 => ?_)
  · show V 32 [some (ZR 0), some (ZI o), some (ZI n), some (ZI ((18 * o) + (6 * n))), some (ZI r13), none, none, none, none] [] 41 σ13
    refine zr_iconst (pc := 32) hV 0 dX12_readAct_32 rfl ?_
    exact zr_zret (pc := 33) hV dX12_readAct_33 rfl rfl (by omega) ⟨_, rfl, ⟨by decide, by decide⟩, hσ13, hFσ13, (by omega)⟩
  · show V 23 [some (ZR 0), some (ZI o), some (ZI n), some (ZI ((18 * o) + (6 * n))), some (ZI r13), none, none, none, none] [] 41 σ13
    refine zr_aload_n (pc := 23) hV dX12_readAct_23 rfl rfl ?_
    refine zr_bipush (pc := 24) hV 61 dX12_readAct_24 (by decide) ?_
    refine zr_callVi (pc := 26) hV [ZI 61] (st := []) (c_X12_takes (σ := σ13) hσ13 61 (by omega)) dX12_readAct_26 mX12_234 rfl (by decide) (by decide) (Nat.le_of_ble_eq_true rfl) (Nat.le_refl _) (fun r26 σ26 hr26 pσ26 => ?_)
    obtain ⟨hσ26, hfσ26, pσ26⟩ := pσ26
    have hFσ26 : ∀ a i : Int, (¬ (a = 0 ∧ i = 15) ∧ ¬ (a = 0 ∧ i = 17) ∧ ¬ (a = 6 ∧ 18 * o + 6 * n ≤ i ∧ i < 18 * o + 6 * n + 6)) → σ26 a i = σ a i := fun a i h => (hfσ26 a i h.1).trans (hFσ13 a i h)
    have t2 := zx_g15 hσ13
    have t3 := zx_g15 hσ26
    refine zr_if_ne (pc := 29) hV 34 dX12_readAct_29 (by decide) (by omega) (fun c4 => ?_) (fun c4 => ?_)
    · show V 34 [some (ZR 0), some (ZI o), some (ZI n), some (ZI ((18 * o) + (6 * n))), some (ZI r13), none, none, none, none] [] 41 σ26
      refine zr_aload_n (pc := 34) hV dX12_readAct_34 rfl rfl ?_
      refine zr_iload_n (pc := 35) hV dX12_readAct_35 rfl rfl ?_
      refine zr_iconst (pc := 36) hV 0 dX12_readAct_36 rfl ?_
      refine zr_callVi (pc := 37) hV [ZI o, ZI 0] (st := []) (c_X12_readNamed (σ := σ26) hσ26 o 0 (by omega) (by omega)) dX12_readAct_37 mX12_241 rfl (by decide) (by decide) (Nat.le_of_ble_eq_true rfl) (Nat.le_refl _) (fun r37 σ37 hr37 pσ37 => ?_)
      obtain ⟨hσ37, hfσ37, pσ37⟩ := pσ37
      have hFσ37 : ∀ a i : Int, (¬ (a = 0 ∧ i = 15) ∧ ¬ (a = 0 ∧ i = 17) ∧ ¬ (a = 6 ∧ 18 * o + 6 * n ≤ i ∧ i < 18 * o + 6 * n + 6)) → σ37 a i = σ a i := fun a i h => (hfσ37 a i ⟨h.1, h.2.1⟩).trans (hFσ26 a i h)
      refine zr_istore (pc := 40) hV [some (ZR 0), some (ZI o), some (ZI n), some (ZI ((18 * o) + (6 * n))), some (ZI r13), some (ZI r37), none, none, none] dX12_readAct_40 (by decide) rfl rfl ?_
      refine zr_aload_n (pc := 42) hV dX12_readAct_42 rfl rfl ?_
      refine zr_getI (pc := 43) hV 17 dX12_readAct_43 fX12_228 rfl rfl rfl (by decide) ?_
      have t5 := zx_g17 hσ37
      refine zr_istore (pc := 46) hV [some (ZR 0), some (ZI o), some (ZI n), some (ZI ((18 * o) + (6 * n))), some (ZI r13), some (ZI r37), some (ZI (σ37 0 17)), none, none] dX12_readAct_46 (by decide) rfl rfl ?_
      refine zr_iload (pc := 48) hV dX12_readAct_48 rfl ?_
      refine zr_if_ge (pc := 50) hV 55 dX12_readAct_50 (by decide) (by omega) (fun c6 => ?_) (fun c6 => ?_)
      · show V 55 [some (ZR 0), some (ZI o), some (ZI n), some (ZI ((18 * o) + (6 * n))), some (ZI r13), some (ZI r37), some (ZI (σ37 0 17)), none, none] [] 41 σ37
        refine zr_aload_n (pc := 55) hV dX12_readAct_55 rfl rfl ?_
        refine zr_callVi (pc := 56) hV [] (st := []) (c_X12_next (σ := σ37) hσ37 ) dX12_readAct_56 mX12_203 rfl (by decide) (by decide) (Nat.le_of_ble_eq_true rfl) (Nat.le_refl _) (fun r56 σ56 hr56 pσ56 => ?_)
        obtain ⟨hσ56, hfσ56, pσ56, wσ56⟩ := pσ56
        have hFσ56 : ∀ a i : Int, (¬ (a = 0 ∧ i = 15) ∧ ¬ (a = 0 ∧ i = 17) ∧ ¬ (a = 6 ∧ 18 * o + 6 * n ≤ i ∧ i < 18 * o + 6 * n + 6)) → σ56 a i = σ a i := fun a i h => (hfσ56 a i h.1).trans (hFσ37 a i h)
        have t7 := zx_g14 hσ37
        have t8 : σ37 0 14 = σ26 0 14 := hfσ37 _ _ (by omega)
        have t9 : σ26 0 14 = σ13 0 14 := hfσ26 _ _ (by omega)
        have t10 : σ13 0 14 = σ 0 14 := hfσ13 _ _ (by omega)
        have t11 := zx_g15 hσ37
        have t12 := zx_g15 hσ56
        refine zr_callSp (pc := 59) hV [ZI r56] (st := []) (c_X12_signOf (σ := σ56) r56 (by omega)) dX12_readAct_59 mX12_245 (by decide) (Nat.le_of_ble_eq_true rfl) (Nat.le_refl _) (fun r59 hr59 pr59 => ?_)
        refine zr_istore (pc := 62) hV [some (ZR 0), some (ZI o), some (ZI n), some (ZI ((18 * o) + (6 * n))), some (ZI r13), some (ZI r37), some (ZI (σ37 0 17)), some (ZI r59), none] dX12_readAct_62 (by decide) rfl rfl ?_
        refine zr_aload_n (pc := 64) hV dX12_readAct_64 rfl rfl ?_
        refine zr_dup (pc := 65) hV dX12_readAct_65 (fun _ => rfl) ?_
        refine zr_getI (pc := 66) hV 15 dX12_readAct_66 fX12_200 rfl rfl rfl (by decide) ?_
        have t13 := zx_g15 hσ56
        refine zr_iload (pc := 69) hV dX12_readAct_69 rfl ?_
        have J79 : ∀ (v0_79 : Int), (0 ≤ v0_79 ∧ v0_79 ≤ 1) → (1 ≤ v0_79 → σ56 0 15 < 80) → V 79 [some (ZR 0), some (ZI o), none, some (ZI ((18 * o) + (6 * n))), some (ZI r13), some (ZI r37), some (ZI (σ37 0 17)), some (ZI r59), none] [ZI v0_79, ZI (σ56 0 15), ZR 0] 41 σ56 := by
          intro v0_79 hv0_79 hi79_0
          show V 79 [some (ZR 0), some (ZI o), none, some (ZI ((18 * o) + (6 * n))), some (ZI r13), some (ZI r37), some (ZI (σ37 0 17)), some (ZI r59), none] [ZI v0_79, ZI (σ56 0 15), ZR 0] 41 σ56
          refine zr_iadd (pc := 79) hV dX12_readAct_79 ?_
          refine zr_putI (pc := 80) hV 15 dX12_readAct_80 fX12_200 rfl rfl rfl rfl (by decide) (fun σ80 eσ80 => ?_)
          have hσ80 : zx_T σ80 := zx_u15 eσ80 hσ56 (by omega)
          have hFσ80 : ∀ a i : Int, (¬ (a = 0 ∧ i = 15) ∧ ¬ (a = 0 ∧ i = 17) ∧ ¬ (a = 6 ∧ 18 * o + 6 * n ≤ i ∧ i < 18 * o + 6 * n + 6)) → σ80 a i = σ a i := fun a i h => by rw [eσ80, zq_up_ne h.1]; exact hFσ56 a i h
          refine zr_iload (pc := 83) hV dX12_readAct_83 rfl ?_
          have J98 : ∀ (v0_98 : Int) (σ_98 : zq_S), ((-1) ≤ v0_98 ∧ v0_98 ≤ 10) → (zx_T σ_98) → (∀ a i : Int, (¬ (a = 0 ∧ i = 15) ∧ ¬ (a = 0 ∧ i = 17) ∧ ¬ (a = 6 ∧ 18 * o + 6 * n ≤ i ∧ i < 18 * o + 6 * n + 6)) → σ_98 a i = σ a i) → V 98 [some (ZR 0), none, none, some (ZI ((18 * o) + (6 * n))), some (ZI r13), some (ZI r37), some (ZI (σ37 0 17)), some (ZI r59), none] [ZI v0_98] 41 σ_98 := by
            intro v0_98 σ_98 hv0_98 hσ_98 hFσ_98
            show V 98 [some (ZR 0), none, none, some (ZI ((18 * o) + (6 * n))), some (ZI r13), some (ZI r37), some (ZI (σ37 0 17)), some (ZI r59), none] [ZI v0_98] 41 σ_98
            refine zr_istore (pc := 98) hV [some (ZR 0), none, none, some (ZI ((18 * o) + (6 * n))), some (ZI r13), some (ZI r37), some (ZI (σ37 0 17)), some (ZI r59), some (ZI v0_98)] dX12_readAct_98 (by decide) rfl rfl ?_
            refine zr_aload_n (pc := 100) hV dX12_readAct_100 rfl rfl ?_
            refine zr_getR (pc := 101) hV 9 6 dX12_readAct_101 fX12_35 rfl rfl rfl (by decide) (zx_g9 hσ_98) (by omega) ?_
            refine zr_iload_n (pc := 104) hV dX12_readAct_104 rfl rfl ?_
            refine zr_iload (pc := 105) hV dX12_readAct_105 rfl ?_
            refine zr_iast (pc := 107) hV dX12_readAct_107 rfl (by decide) rfl (by omega) (fun σ107 eσ107 => ?_)
            have hσ107 : zx_T σ107 := zx_ua6 eσ107 hσ_98 (by omega)
            have hFσ107 : ∀ a i : Int, (¬ (a = 0 ∧ i = 15) ∧ ¬ (a = 0 ∧ i = 17) ∧ ¬ (a = 6 ∧ 18 * o + 6 * n ≤ i ∧ i < 18 * o + 6 * n + 6)) → σ107 a i = σ a i := fun a i h => by rw [eσ107, zq_up_ne (fun q => h.2.2 ⟨q.1, by omega⟩)]; exact hFσ_98 a i h
            refine zr_aload_n (pc := 108) hV dX12_readAct_108 rfl rfl ?_
            refine zr_getR (pc := 109) hV 9 6 dX12_readAct_109 fX12_35 rfl rfl rfl (by decide) (zx_g9 hσ107) (by omega) ?_
            refine zr_iload_n (pc := 112) hV dX12_readAct_112 rfl rfl ?_
            refine zr_iconst (pc := 113) hV 1 dX12_readAct_113 rfl ?_
            refine zr_iadd (pc := 114) hV dX12_readAct_114 ?_
            refine zr_iload (pc := 115) hV dX12_readAct_115 rfl ?_
            refine zr_iast (pc := 117) hV dX12_readAct_117 rfl (by decide) rfl (by omega) (fun σ117 eσ117 => ?_)
            have hσ117 : zx_T σ117 := zx_ua6 eσ117 hσ107 (by omega)
            have hFσ117 : ∀ a i : Int, (¬ (a = 0 ∧ i = 15) ∧ ¬ (a = 0 ∧ i = 17) ∧ ¬ (a = 6 ∧ 18 * o + 6 * n ≤ i ∧ i < 18 * o + 6 * n + 6)) → σ117 a i = σ a i := fun a i h => by rw [eσ117, zq_up_ne (fun q => h.2.2 ⟨q.1, by omega⟩)]; exact hFσ107 a i h
            refine zr_aload_n (pc := 118) hV dX12_readAct_118 rfl rfl ?_
            refine zr_getR (pc := 119) hV 9 6 dX12_readAct_119 fX12_35 rfl rfl rfl (by decide) (zx_g9 hσ117) (by omega) ?_
            refine zr_iload_n (pc := 122) hV dX12_readAct_122 rfl rfl ?_
            refine zr_iconst (pc := 123) hV 2 dX12_readAct_123 rfl ?_
            refine zr_iadd (pc := 124) hV dX12_readAct_124 ?_
            refine zr_iload (pc := 125) hV dX12_readAct_125 rfl ?_
            refine zr_iast (pc := 127) hV dX12_readAct_127 rfl (by decide) rfl (by omega) (fun σ127 eσ127 => ?_)
            have hσ127 : zx_T σ127 := zx_ua6 eσ127 hσ117 (by omega)
            have hFσ127 : ∀ a i : Int, (¬ (a = 0 ∧ i = 15) ∧ ¬ (a = 0 ∧ i = 17) ∧ ¬ (a = 6 ∧ 18 * o + 6 * n ≤ i ∧ i < 18 * o + 6 * n + 6)) → σ127 a i = σ a i := fun a i h => by rw [eσ127, zq_up_ne (fun q => h.2.2 ⟨q.1, by omega⟩)]; exact hFσ117 a i h
            refine zr_aload_n (pc := 128) hV dX12_readAct_128 rfl rfl ?_
            refine zr_getR (pc := 129) hV 9 6 dX12_readAct_129 fX12_35 rfl rfl rfl (by decide) (zx_g9 hσ127) (by omega) ?_
            refine zr_iload_n (pc := 132) hV dX12_readAct_132 rfl rfl ?_
            refine zr_iconst (pc := 133) hV 3 dX12_readAct_133 rfl ?_
            refine zr_iadd (pc := 134) hV dX12_readAct_134 ?_
            refine zr_iload (pc := 135) hV dX12_readAct_135 rfl ?_
            refine zr_iast (pc := 137) hV dX12_readAct_137 rfl (by decide) rfl (by omega) (fun σ137 eσ137 => ?_)
            have hσ137 : zx_T σ137 := zx_ua6 eσ137 hσ127 (by omega)
            have hFσ137 : ∀ a i : Int, (¬ (a = 0 ∧ i = 15) ∧ ¬ (a = 0 ∧ i = 17) ∧ ¬ (a = 6 ∧ 18 * o + 6 * n ≤ i ∧ i < 18 * o + 6 * n + 6)) → σ137 a i = σ a i := fun a i h => by rw [eσ137, zq_up_ne (fun q => h.2.2 ⟨q.1, by omega⟩)]; exact hFσ127 a i h
            refine zr_aload_n (pc := 138) hV dX12_readAct_138 rfl rfl ?_
            refine zr_getR (pc := 139) hV 9 6 dX12_readAct_139 fX12_35 rfl rfl rfl (by decide) (zx_g9 hσ137) (by omega) ?_
            refine zr_iload_n (pc := 142) hV dX12_readAct_142 rfl rfl ?_
            refine zr_iconst (pc := 143) hV 4 dX12_readAct_143 rfl ?_
            refine zr_iadd (pc := 144) hV dX12_readAct_144 ?_
            refine zr_iload (pc := 145) hV dX12_readAct_145 rfl ?_
            refine zr_iast (pc := 147) hV dX12_readAct_147 rfl (by decide) rfl (by omega) (fun σ147 eσ147 => ?_)
            have hσ147 : zx_T σ147 := zx_ua6 eσ147 hσ137 (by omega)
            have hFσ147 : ∀ a i : Int, (¬ (a = 0 ∧ i = 15) ∧ ¬ (a = 0 ∧ i = 17) ∧ ¬ (a = 6 ∧ 18 * o + 6 * n ≤ i ∧ i < 18 * o + 6 * n + 6)) → σ147 a i = σ a i := fun a i h => by rw [eσ147, zq_up_ne (fun q => h.2.2 ⟨q.1, by omega⟩)]; exact hFσ137 a i h
            refine zr_aload_n (pc := 148) hV dX12_readAct_148 rfl rfl ?_
            refine zr_getR (pc := 149) hV 9 6 dX12_readAct_149 fX12_35 rfl rfl rfl (by decide) (zx_g9 hσ147) (by omega) ?_
            refine zr_iload_n (pc := 152) hV dX12_readAct_152 rfl rfl ?_
            refine zr_iconst (pc := 153) hV 5 dX12_readAct_153 rfl ?_
            refine zr_iadd (pc := 154) hV dX12_readAct_154 ?_
            refine zr_iload (pc := 155) hV dX12_readAct_155 rfl ?_
            refine zr_if_le (pc := 157) hV 167 dX12_readAct_157 (by decide) (by omega) (fun c14 => ?_) (fun c14 => ?_)
            · show V 167 [some (ZR 0), none, none, some (ZI ((18 * o) + (6 * n))), some (ZI r13), some (ZI r37), some (ZI (σ37 0 17)), some (ZI r59), some (ZI v0_98)] [ZI (((18 * o) + (6 * n)) + 5), ZR 6] 41 σ147
              refine zr_iconst (pc := 167) hV 0 dX12_readAct_167 rfl ?_
              show V 168 [some (ZR 0), none, none, some (ZI ((18 * o) + (6 * n))), some (ZI r13), some (ZI r37), some (ZI (σ37 0 17)), some (ZI r59), some (ZI v0_98)] [ZI 0, ZI (((18 * o) + (6 * n)) + 5), ZR 6] 41 σ147
              refine zr_iast (pc := 168) hV dX12_readAct_168 rfl (by decide) rfl (by omega) (fun σ168 eσ168 => ?_)
              have hσ168 : zx_T σ168 := zx_ua6 eσ168 hσ147 (by omega)
              have hFσ168 : ∀ a i : Int, (¬ (a = 0 ∧ i = 15) ∧ ¬ (a = 0 ∧ i = 17) ∧ ¬ (a = 6 ∧ 18 * o + 6 * n ≤ i ∧ i < 18 * o + 6 * n + 6)) → σ168 a i = σ a i := fun a i h => by rw [eσ168, zq_up_ne (fun q => h.2.2 ⟨q.1, by omega⟩)]; exact hFσ147 a i h
              have za : σ168 6 (18 * o + 6 * n + 4) = σ147 6 (18 * o + 6 * n + 4) := by rw [eσ168]; exact zq_up_ne (by omega)
              have zb : σ147 6 (18 * o + 6 * n + 4) = v0_98 := by rw [eσ147]; exact zq_up_same _ _ _ _
              refine zr_iload (pc := 169) hV dX12_readAct_169 rfl ?_
              refine zr_if_lt (pc := 171) hV 178 dX12_readAct_171 (by decide) (by omega) (fun c15 => ?_) (fun c15 => ?_)
              · show V 178 [some (ZR 0), none, none, some (ZI ((18 * o) + (6 * n))), some (ZI r13), some (ZI r37), some (ZI (σ37 0 17)), some (ZI r59), some (ZI v0_98)] [] 41 σ168
                refine zr_iconst (pc := 178) hV 0 dX12_readAct_178 rfl ?_
                show V 179 [some (ZR 0), none, none, some (ZI ((18 * o) + (6 * n))), some (ZI r13), some (ZI r37), some (ZI (σ37 0 17)), some (ZI r59), some (ZI v0_98)] [ZI 0] 41 σ168
                exact zr_zret (pc := 179) hV dX12_readAct_179 rfl rfl (by omega) ⟨_, rfl, ⟨by decide, by decide⟩, hσ168, hFσ168, (by omega)⟩
              · show V 174 [some (ZR 0), none, none, some (ZI ((18 * o) + (6 * n))), some (ZI r13), some (ZI r37), some (ZI (σ37 0 17)), some (ZI r59), some (ZI v0_98)] [] 41 σ168
                refine zr_iconst (pc := 174) hV 1 dX12_readAct_174 rfl ?_
                refine zr_goto (pc := 175) hV 179 dX12_readAct_175 (by decide) ?_
                show V 179 [some (ZR 0), none, none, some (ZI ((18 * o) + (6 * n))), some (ZI r13), some (ZI r37), some (ZI (σ37 0 17)), some (ZI r59), some (ZI v0_98)] [ZI 1] 41 σ168
                exact zr_zret (pc := 179) hV dX12_readAct_179 rfl rfl (by omega) ⟨_, rfl, ⟨by decide, by decide⟩, hσ168, hFσ168, (by omega)⟩
            · show V 160 [some (ZR 0), none, none, some (ZI ((18 * o) + (6 * n))), some (ZI r13), some (ZI r37), some (ZI (σ37 0 17)), some (ZI r59), some (ZI v0_98)] [ZI (((18 * o) + (6 * n)) + 5), ZR 6] 41 σ147
              refine zr_aload_n (pc := 160) hV dX12_readAct_160 rfl rfl ?_
              refine zr_getI (pc := 161) hV 17 dX12_readAct_161 fX12_228 rfl rfl rfl (by decide) ?_
              have t16 := zx_g17 hσ147
              have t17 : σ147 0 17 = σ137 0 17 := by rw [eσ147]; exact zq_up_ne (by omega)
              have t18 : σ137 0 17 = σ127 0 17 := by rw [eσ137]; exact zq_up_ne (by omega)
              have t19 : σ127 0 17 = σ117 0 17 := by rw [eσ127]; exact zq_up_ne (by omega)
              have t20 : σ117 0 17 = σ107 0 17 := by rw [eσ117]; exact zq_up_ne (by omega)
              have t21 : σ107 0 17 = σ_98 0 17 := by rw [eσ107]; exact zq_up_ne (by omega)
              refine zr_goto (pc := 164) hV 168 dX12_readAct_164 (by decide) ?_
              show V 168 [some (ZR 0), none, none, some (ZI ((18 * o) + (6 * n))), some (ZI r13), some (ZI r37), some (ZI (σ37 0 17)), some (ZI r59), some (ZI v0_98)] [ZI (σ147 0 17), ZI (((18 * o) + (6 * n)) + 5), ZR 6] 41 σ147
              refine zr_iast (pc := 168) hV dX12_readAct_168 rfl (by decide) rfl (by omega) (fun σ168 eσ168 => ?_)
              have hσ168 : zx_T σ168 := zx_ua6 eσ168 hσ147 (by omega)
              have hFσ168 : ∀ a i : Int, (¬ (a = 0 ∧ i = 15) ∧ ¬ (a = 0 ∧ i = 17) ∧ ¬ (a = 6 ∧ 18 * o + 6 * n ≤ i ∧ i < 18 * o + 6 * n + 6)) → σ168 a i = σ a i := fun a i h => by rw [eσ168, zq_up_ne (fun q => h.2.2 ⟨q.1, by omega⟩)]; exact hFσ147 a i h
              have za : σ168 6 (18 * o + 6 * n + 4) = σ147 6 (18 * o + 6 * n + 4) := by rw [eσ168]; exact zq_up_ne (by omega)
              have zb : σ147 6 (18 * o + 6 * n + 4) = v0_98 := by rw [eσ147]; exact zq_up_same _ _ _ _
              refine zr_iload (pc := 169) hV dX12_readAct_169 rfl ?_
              refine zr_if_lt (pc := 171) hV 178 dX12_readAct_171 (by decide) (by omega) (fun c22 => ?_) (fun c22 => ?_)
              · show V 178 [some (ZR 0), none, none, some (ZI ((18 * o) + (6 * n))), some (ZI r13), some (ZI r37), some (ZI (σ37 0 17)), some (ZI r59), some (ZI v0_98)] [] 41 σ168
                refine zr_iconst (pc := 178) hV 0 dX12_readAct_178 rfl ?_
                show V 179 [some (ZR 0), none, none, some (ZI ((18 * o) + (6 * n))), some (ZI r13), some (ZI r37), some (ZI (σ37 0 17)), some (ZI r59), some (ZI v0_98)] [ZI 0] 41 σ168
                exact zr_zret (pc := 179) hV dX12_readAct_179 rfl rfl (by omega) ⟨_, rfl, ⟨by decide, by decide⟩, hσ168, hFσ168, (by omega)⟩
              · show V 174 [some (ZR 0), none, none, some (ZI ((18 * o) + (6 * n))), some (ZI r13), some (ZI r37), some (ZI (σ37 0 17)), some (ZI r59), some (ZI v0_98)] [] 41 σ168
                refine zr_iconst (pc := 174) hV 1 dX12_readAct_174 rfl ?_
                refine zr_goto (pc := 175) hV 179 dX12_readAct_175 (by decide) ?_
                show V 179 [some (ZR 0), none, none, some (ZI ((18 * o) + (6 * n))), some (ZI r13), some (ZI r37), some (ZI (σ37 0 17)), some (ZI r59), some (ZI v0_98)] [ZI 1] 41 σ168
                exact zr_zret (pc := 179) hV dX12_readAct_179 rfl rfl (by omega) ⟨_, rfl, ⟨by decide, by decide⟩, hσ168, hFσ168, (by omega)⟩
          refine zr_if_le (pc := 85) hV 97 dX12_readAct_85 (by decide) (by omega) (fun c23 => ?_) (fun c23 => ?_)
          · show V 97 [some (ZR 0), some (ZI o), none, some (ZI ((18 * o) + (6 * n))), some (ZI r13), some (ZI r37), some (ZI (σ37 0 17)), some (ZI r59), none] [] 41 σ80
            refine zr_iconst (pc := 97) hV 0 dX12_readAct_97 rfl ?_
            refine zr_sub (pc := 98) hV [some (ZR 0), none, none, some (ZI ((18 * o) + (6 * n))), some (ZI r13), some (ZI r37), some (ZI (σ37 0 17)), some (ZI r59), none] (⟨rfl, rfl, rfl, rfl, rfl, rfl, trivial⟩) ?_
            exact J98 0 σ80 (by omega) hσ80 hFσ80
          · show V 88 [some (ZR 0), some (ZI o), none, some (ZI ((18 * o) + (6 * n))), some (ZI r13), some (ZI r37), some (ZI (σ37 0 17)), some (ZI r59), none] [] 41 σ80
            refine zr_aload_n (pc := 88) hV dX12_readAct_88 rfl rfl ?_
            refine zr_iload_n (pc := 89) hV dX12_readAct_89 rfl rfl ?_
            refine zr_iconst (pc := 90) hV 0 dX12_readAct_90 rfl ?_
            refine zr_callVi (pc := 91) hV [ZI o, ZI 0] (st := []) (c_X12_readNamed (σ := σ80) hσ80 o 0 (by omega) (by omega)) dX12_readAct_91 mX12_241 rfl (by decide) (by decide) (Nat.le_of_ble_eq_true rfl) (Nat.le_refl _) (fun r91 σ91 hr91 pσ91 => ?_)
            obtain ⟨hσ91, hfσ91, pσ91⟩ := pσ91
            have hFσ91 : ∀ a i : Int, (¬ (a = 0 ∧ i = 15) ∧ ¬ (a = 0 ∧ i = 17) ∧ ¬ (a = 6 ∧ 18 * o + 6 * n ≤ i ∧ i < 18 * o + 6 * n + 6)) → σ91 a i = σ a i := fun a i h => (hfσ91 a i ⟨h.1, h.2.1⟩).trans (hFσ80 a i h)
            refine zr_goto (pc := 94) hV 98 dX12_readAct_94 (by decide) ?_
            refine zr_sub (pc := 98) hV [some (ZR 0), none, none, some (ZI ((18 * o) + (6 * n))), some (ZI r13), some (ZI r37), some (ZI (σ37 0 17)), some (ZI r59), none] (⟨rfl, rfl, rfl, rfl, rfl, rfl, trivial⟩) ?_
            exact J98 r91 σ91 (by omega) hσ91 hFσ91
        refine zr_if_le (pc := 71) hV 78 dX12_readAct_71 (by decide) (by omega) (fun c24 => ?_) (fun c24 => ?_)
        · show V 78 [some (ZR 0), some (ZI o), some (ZI n), some (ZI ((18 * o) + (6 * n))), some (ZI r13), some (ZI r37), some (ZI (σ37 0 17)), some (ZI r59), none] [ZI (σ56 0 15), ZR 0] 41 σ56
          refine zr_iconst (pc := 78) hV 0 dX12_readAct_78 rfl ?_
          have t25 := zx_g15 hσ56
          refine zr_sub (pc := 79) hV [some (ZR 0), some (ZI o), none, some (ZI ((18 * o) + (6 * n))), some (ZI r13), some (ZI r37), some (ZI (σ37 0 17)), some (ZI r59), none] (⟨rfl, rfl, rfl, rfl, rfl, rfl, rfl, trivial⟩) ?_
          exact J79 0 (by omega) (by omega)
        · show V 74 [some (ZR 0), some (ZI o), some (ZI n), some (ZI ((18 * o) + (6 * n))), some (ZI r13), some (ZI r37), some (ZI (σ37 0 17)), some (ZI r59), none] [ZI (σ56 0 15), ZR 0] 41 σ56
          refine zr_iconst (pc := 74) hV 1 dX12_readAct_74 rfl ?_
          refine zr_goto (pc := 75) hV 79 dX12_readAct_75 (by decide) ?_
          have t26 := zx_g15 hσ56
          refine zr_sub (pc := 79) hV [some (ZR 0), some (ZI o), none, some (ZI ((18 * o) + (6 * n))), some (ZI r13), some (ZI r37), some (ZI (σ37 0 17)), some (ZI r59), none] (⟨rfl, rfl, rfl, rfl, rfl, rfl, rfl, trivial⟩) ?_
          exact J79 1 (by omega) (by omega)
      · show V 53 [some (ZR 0), some (ZI o), some (ZI n), some (ZI ((18 * o) + (6 * n))), some (ZI r13), some (ZI r37), some (ZI (σ37 0 17)), none, none] [] 41 σ37
        refine zr_iconst (pc := 53) hV 0 dX12_readAct_53 rfl ?_
        exact zr_zret (pc := 54) hV dX12_readAct_54 rfl rfl (by omega) ⟨_, rfl, ⟨by decide, by decide⟩, hσ37, hFσ37, (by omega)⟩
    · show V 32 [some (ZR 0), some (ZI o), some (ZI n), some (ZI ((18 * o) + (6 * n))), some (ZI r13), none, none, none, none] [] 41 σ26
      refine zr_iconst (pc := 32) hV 0 dX12_readAct_32 rfl ?_
      exact zr_zret (pc := 33) hV dX12_readAct_33 rfl rfl (by omega) ⟨_, rfl, ⟨by decide, by decide⟩, hσ26, hFσ26, (by omega)⟩
set_option maxHeartbeats 800000 in
theorem c_X12_readGuard {σ : zq_S} (hσ : zx_T σ) (o : Int) (q0 : 0 ≤ o ∧ o ≤ 20) : zq_C zx_w yX12_readGuard cX12_readGuard 4 (some .boolean) 3 68 41 41 [ZR 0, ZI o] σ (zq_pi (fun r τ => zx_T τ ∧ (∀ a i : Int, (¬ (a = 0 ∧ i = 15) ∧ ¬ (a = 3 ∧ i = o) ∧ ¬ (a = 4 ∧ i = o)) → τ a i = σ a i) ∧ ((r = 0 ∨ r = 1)))) := by
  refine zq_C_of (by decide) (Nat.le_refl _) (Nat.le_of_ble_eq_true rfl) [some (ZR 0), some (ZI o), none, none] rfl (fun V hV => ?_)
  show V 0 [some (ZR 0), some (ZI o), none, none] [] 41 σ
  refine zr_aload_n (pc := 0) hV dX12_readGuard_0 rfl rfl ?_
  refine zr_getR (pc := 1) hV 6 3 dX12_readGuard_1 fX12_26 rfl rfl rfl (by decide) (zx_g6 hσ) (by omega) ?_
  refine zr_iload_n (pc := 4) hV dX12_readGuard_4 rfl rfl ?_
  refine zr_iconst (pc := 5) hV 0 dX12_readGuard_5 rfl ?_
  refine zr_iast (pc := 6) hV dX12_readGuard_6 rfl (by decide) rfl (by omega) (fun σ6 eσ6 => ?_)
  have hσ6 : zx_T σ6 := zx_ua3 eσ6 hσ (by omega)
  have hFσ6 : ∀ a i : Int, (¬ (a = 0 ∧ i = 15) ∧ ¬ (a = 3 ∧ i = o) ∧ ¬ (a = 4 ∧ i = o)) → σ6 a i = σ a i := fun a i h => by rw [eσ6, zq_up_ne (fun q => h.2.1 ⟨q.1, by omega⟩)]
  refine zr_aload_n (pc := 7) hV dX12_readGuard_7 rfl rfl ?_
  refine zr_getR (pc := 8) hV 7 4 dX12_readGuard_8 fX12_29 rfl rfl rfl (by decide) (zx_g7 hσ6) (by omega) ?_
  refine zr_iload_n (pc := 11) hV dX12_readGuard_11 rfl rfl ?_
  refine zr_iconst (pc := 12) hV 0 dX12_readGuard_12 rfl ?_
  refine zr_iast (pc := 13) hV dX12_readGuard_13 rfl (by decide) rfl (by omega) (fun σ13 eσ13 => ?_)
  have hσ13 : zx_T σ13 := zx_ua4 eσ13 hσ6 (by omega)
  have hFσ13 : ∀ a i : Int, (¬ (a = 0 ∧ i = 15) ∧ ¬ (a = 3 ∧ i = o) ∧ ¬ (a = 4 ∧ i = o)) → σ13 a i = σ a i := fun a i h => by rw [eσ13, zq_up_ne (fun q => h.2.2 ⟨q.1, by omega⟩)]; exact hFσ6 a i h
  refine zr_aload_n (pc := 14) hV dX12_readGuard_14 rfl rfl ?_
  refine zr_bipush (pc := 15) hV 63 dX12_readGuard_15 (by decide) ?_
  refine zr_callVi (pc := 17) hV [ZI 63] (st := []) (c_X12_takes (σ := σ13) hσ13 63 (by omega)) dX12_readGuard_17 mX12_234 rfl (by decide) (by decide) (Nat.le_of_ble_eq_true rfl) (Nat.le_refl _) (fun r17 σ17 hr17 pσ17 => ?_)
  obtain ⟨hσ17, hfσ17, pσ17⟩ := pσ17
  have hFσ17 : ∀ a i : Int, (¬ (a = 0 ∧ i = 15) ∧ ¬ (a = 3 ∧ i = o) ∧ ¬ (a = 4 ∧ i = o)) → σ17 a i = σ a i := fun a i h => (hfσ17 a i h.1).trans (hFσ13 a i h)
  have t1 := zx_g15 hσ13
  have t2 : σ13 0 15 = σ6 0 15 := by rw [eσ13]; exact zq_up_ne (by omega)
  have t3 : σ6 0 15 = σ 0 15 := by rw [eσ6]; exact zq_up_ne (by omega)
  have t4 := zx_g15 hσ17
  refine zr_if_ne (pc := 20) hV 25 dX12_readGuard_20 (by decide) (by omega) (fun c5 => ?_) (fun c5 => ?_)
  · show V 25 [some (ZR 0), some (ZI o), none, none] [] 41 σ17
    refine zr_aload_n (pc := 25) hV dX12_readGuard_25 rfl rfl ?_
    refine zr_getR (pc := 26) hV 6 3 dX12_readGuard_26 fX12_26 rfl rfl rfl (by decide) (zx_g6 hσ17) (by omega) ?_
    refine zr_iload_n (pc := 29) hV dX12_readGuard_29 rfl rfl ?_
    refine zr_aload_n (pc := 30) hV dX12_readGuard_30 rfl rfl ?_
    refine zr_bipush (pc := 31) hV 33 dX12_readGuard_31 (by decide) ?_
    refine zr_callVi (pc := 33) hV [ZI 33] (st := [ZI o, ZR 3]) (c_X12_takes (σ := σ17) hσ17 33 (by omega)) dX12_readGuard_33 mX12_234 rfl (by decide) (by decide) (Nat.le_of_ble_eq_true rfl) (Nat.le_refl _) (fun r33 σ33 hr33 pσ33 => ?_)
    obtain ⟨hσ33, hfσ33, pσ33⟩ := pσ33
    have hFσ33 : ∀ a i : Int, (¬ (a = 0 ∧ i = 15) ∧ ¬ (a = 3 ∧ i = o) ∧ ¬ (a = 4 ∧ i = o)) → σ33 a i = σ a i := fun a i h => (hfσ33 a i h.1).trans (hFσ17 a i h)
    have t6 := zx_g15 hσ17
    have t7 := zx_g15 hσ33
    have J44 : ∀ (v0_44 : Int), (1 ≤ v0_44 ∧ v0_44 ≤ 2) → V 44 [some (ZR 0), some (ZI o), none, none] [ZI v0_44, ZI o, ZR 3] 41 σ33 := by
      intro v0_44 hv0_44
      show V 44 [some (ZR 0), some (ZI o), none, none] [ZI v0_44, ZI o, ZR 3] 41 σ33
      refine zr_iast (pc := 44) hV dX12_readGuard_44 rfl (by decide) rfl (by omega) (fun σ44 eσ44 => ?_)
      have hσ44 : zx_T σ44 := zx_ua3 eσ44 hσ33 (by omega)
      have hFσ44 : ∀ a i : Int, (¬ (a = 0 ∧ i = 15) ∧ ¬ (a = 3 ∧ i = o) ∧ ¬ (a = 4 ∧ i = o)) → σ44 a i = σ a i := fun a i h => by rw [eσ44, zq_up_ne (fun q => h.2.1 ⟨q.1, by omega⟩)]; exact hFσ33 a i h
      refine zr_aload_n (pc := 45) hV dX12_readGuard_45 rfl rfl ?_
      refine zr_bipush (pc := 46) hV 122 dX12_readGuard_46 (by decide) ?_
      refine zr_callVi (pc := 48) hV [ZI 122] (st := []) (c_X12_takes (σ := σ44) hσ44 122 (by omega)) dX12_readGuard_48 mX12_234 rfl (by decide) (by decide) (Nat.le_of_ble_eq_true rfl) (Nat.le_refl _) (fun r48 σ48 hr48 pσ48 => ?_)
      obtain ⟨hσ48, hfσ48, pσ48⟩ := pσ48
      have hFσ48 : ∀ a i : Int, (¬ (a = 0 ∧ i = 15) ∧ ¬ (a = 3 ∧ i = o) ∧ ¬ (a = 4 ∧ i = o)) → σ48 a i = σ a i := fun a i h => (hfσ48 a i h.1).trans (hFσ44 a i h)
      have t8 := zx_g15 hσ44
      have t9 : σ44 0 15 = σ33 0 15 := by rw [eσ44]; exact zq_up_ne (by omega)
      have t10 := zx_g15 hσ48
      refine zr_if_eq (pc := 51) hV 64 dX12_readGuard_51 (by decide) (by omega) (fun c11 => ?_) (fun c11 => ?_)
      · show V 64 [some (ZR 0), some (ZI o), none, none] [] 41 σ48
        refine zr_aload_n (pc := 64) hV dX12_readGuard_64 rfl rfl ?_
        refine zr_callVi (pc := 65) hV [] (st := []) (c_X12_next (σ := σ48) hσ48 ) dX12_readGuard_65 mX12_203 rfl (by decide) (by decide) (Nat.le_of_ble_eq_true rfl) (Nat.le_refl _) (fun r65 σ65 hr65 pσ65 => ?_)
        obtain ⟨hσ65, hfσ65, pσ65, wσ65⟩ := pσ65
        have hFσ65 : ∀ a i : Int, (¬ (a = 0 ∧ i = 15) ∧ ¬ (a = 3 ∧ i = o) ∧ ¬ (a = 4 ∧ i = o)) → σ65 a i = σ a i := fun a i h => (hfσ65 a i h.1).trans (hFσ48 a i h)
        have t12 := zx_g14 hσ48
        have t13 : σ48 0 14 = σ44 0 14 := hfσ48 _ _ (by omega)
        have t14 : σ44 0 14 = σ33 0 14 := by rw [eσ44]; exact zq_up_ne (by omega)
        have t15 : σ33 0 14 = σ17 0 14 := hfσ33 _ _ (by omega)
        have t16 : σ17 0 14 = σ13 0 14 := hfσ17 _ _ (by omega)
        have t17 : σ13 0 14 = σ6 0 14 := by rw [eσ13]; exact zq_up_ne (by omega)
        have t18 : σ6 0 14 = σ 0 14 := by rw [eσ6]; exact zq_up_ne (by omega)
        have t19 := zx_g15 hσ48
        have t20 := zx_g15 hσ65
        refine zr_istore_n (pc := 68) hV [some (ZR 0), some (ZI o), some (ZI r65), none] dX12_readGuard_68 rfl (by decide) rfl rfl ?_
        refine zr_iload_n (pc := 69) hV dX12_readGuard_69 rfl rfl ?_
        refine zr_bipush (pc := 70) hV 105 dX12_readGuard_70 (by decide) ?_
        refine zr_icmp_ne (pc := 72) hV 79 dX12_readGuard_72 (by decide) (by omega) ⟨by decide, by decide⟩ (fun c21 => ?_) (fun c21 => ?_)
        · show V 79 [some (ZR 0), some (ZI o), some (ZI r65), none] [] 41 σ65
          refine zr_aload_n (pc := 79) hV dX12_readGuard_79 rfl rfl ?_
          refine zr_iload_n (pc := 80) hV dX12_readGuard_80 rfl rfl ?_
          refine zr_callVi (pc := 81) hV [ZI o] (st := []) (c_X12_readField (σ := σ65) hσ65 o (by omega)) dX12_readGuard_81 mX12_231 rfl (by decide) (by decide) (Nat.le_of_ble_eq_true rfl) (Nat.le_refl _) (fun r81 σ81 hr81 pσ81 => ?_)
          obtain ⟨hσ81, hfσ81, pσ81, wσ81⟩ := pσ81
          have hFσ81 : ∀ a i : Int, (¬ (a = 0 ∧ i = 15) ∧ ¬ (a = 3 ∧ i = o) ∧ ¬ (a = 4 ∧ i = o)) → σ81 a i = σ a i := fun a i h => (hfσ81 a i h.1).trans (hFσ65 a i h)
          have t22 := zx_g14 hσ65
          have t23 : σ65 0 14 = σ48 0 14 := hfσ65 _ _ (by omega)
          have t24 : σ48 0 14 = σ44 0 14 := hfσ48 _ _ (by omega)
          have t25 : σ44 0 14 = σ33 0 14 := by rw [eσ44]; exact zq_up_ne (by omega)
          have t26 : σ33 0 14 = σ17 0 14 := hfσ33 _ _ (by omega)
          have t27 : σ17 0 14 = σ13 0 14 := hfσ17 _ _ (by omega)
          have t28 : σ13 0 14 = σ6 0 14 := by rw [eσ13]; exact zq_up_ne (by omega)
          have t29 : σ6 0 14 = σ 0 14 := by rw [eσ6]; exact zq_up_ne (by omega)
          have t30 := zx_g15 hσ65
          show V 84 [some (ZR 0), some (ZI o), some (ZI r65), none] [ZI r81] 41 σ81
          refine zr_istore_n (pc := 84) hV [some (ZR 0), some (ZI o), some (ZI r65), some (ZI r81)] dX12_readGuard_84 rfl (by decide) rfl rfl ?_
          refine zr_iload_n (pc := 85) hV dX12_readGuard_85 rfl rfl ?_
          refine zr_if_ge (pc := 86) hV 91 dX12_readGuard_86 (by decide) (by omega) (fun c31 => ?_) (fun c31 => ?_)
          · show V 91 [some (ZR 0), some (ZI o), some (ZI r65), some (ZI r81)] [] 41 σ81
            refine zr_aload_n (pc := 91) hV dX12_readGuard_91 rfl rfl ?_
            refine zr_getR (pc := 92) hV 7 4 dX12_readGuard_92 fX12_29 rfl rfl rfl (by decide) (zx_g7 hσ81) (by omega) ?_
            refine zr_iload_n (pc := 95) hV dX12_readGuard_95 rfl rfl ?_
            refine zr_iload_n (pc := 96) hV dX12_readGuard_96 rfl rfl ?_
            refine zr_iast (pc := 97) hV dX12_readGuard_97 rfl (by decide) rfl (by omega) (fun σ97 eσ97 => ?_)
            have hσ97 : zx_T σ97 := zx_ua4 eσ97 hσ81 (by omega)
            have hFσ97 : ∀ a i : Int, (¬ (a = 0 ∧ i = 15) ∧ ¬ (a = 3 ∧ i = o) ∧ ¬ (a = 4 ∧ i = o)) → σ97 a i = σ a i := fun a i h => by rw [eσ97, zq_up_ne (fun q => h.2.2 ⟨q.1, by omega⟩)]; exact hFσ81 a i h
            show V 98 [some (ZR 0), some (ZI o), some (ZI r65), some (ZI r81)] [] 41 σ97
            refine zr_aload_n (pc := 98) hV dX12_readGuard_98 rfl rfl ?_
            refine zr_bipush (pc := 99) hV 44 dX12_readGuard_99 (by decide) ?_
            refine zr_callVi (pc := 101) hV [ZI 44] (st := []) (c_X12_takes (σ := σ97) hσ97 44 (by omega)) dX12_readGuard_101 mX12_234 rfl (by decide) (by decide) (Nat.le_of_ble_eq_true rfl) (Nat.le_refl _) (fun r101 σ101 hr101 pσ101 => ?_)
            obtain ⟨hσ101, hfσ101, pσ101⟩ := pσ101
            have hFσ101 : ∀ a i : Int, (¬ (a = 0 ∧ i = 15) ∧ ¬ (a = 3 ∧ i = o) ∧ ¬ (a = 4 ∧ i = o)) → σ101 a i = σ a i := fun a i h => (hfσ101 a i h.1).trans (hFσ97 a i h)
            have t32 := zx_g15 hσ97
            have t33 : σ97 0 15 = σ81 0 15 := by rw [eσ97]; exact zq_up_ne (by omega)
            have t34 := zx_g15 hσ101
            exact zr_zret (pc := 104) hV dX12_readGuard_104 rfl rfl (by omega) ⟨_, rfl, (by omega), hσ101, hFσ101, (by omega)⟩
          · show V 89 [some (ZR 0), some (ZI o), some (ZI r65), some (ZI r81)] [] 41 σ81
            refine zr_iconst (pc := 89) hV 0 dX12_readGuard_89 rfl ?_
            exact zr_zret (pc := 90) hV dX12_readGuard_90 rfl rfl (by omega) ⟨_, rfl, ⟨by decide, by decide⟩, hσ81, hFσ81, (by omega)⟩
        · show V 75 [some (ZR 0), some (ZI o), some (ZI r65), none] [] 41 σ65
          refine zr_iconst (pc := 75) hV (-1) dX12_readGuard_75 rfl ?_
          refine zr_goto (pc := 76) hV 84 dX12_readGuard_76 (by decide) ?_
          show V 84 [some (ZR 0), some (ZI o), some (ZI r65), none] [ZI (-1)] 41 σ65
          refine zr_istore_n (pc := 84) hV [some (ZR 0), some (ZI o), some (ZI r65), some (ZI (-1))] dX12_readGuard_84 rfl (by decide) rfl rfl ?_
          refine zr_iload_n (pc := 85) hV dX12_readGuard_85 rfl rfl ?_
          refine zr_if_ge (pc := 86) hV 91 dX12_readGuard_86 (by decide) ⟨by decide, by decide⟩ (fun c35 => ?_) (fun c35 => ?_)
          · exfalso; omega
          · show V 89 [some (ZR 0), some (ZI o), some (ZI r65), some (ZI (-1))] [] 41 σ65
            refine zr_iconst (pc := 89) hV 0 dX12_readGuard_89 rfl ?_
            exact zr_zret (pc := 90) hV dX12_readGuard_90 rfl rfl (by omega) ⟨_, rfl, ⟨by decide, by decide⟩, hσ65, hFσ65, (by omega)⟩
      · show V 54 [some (ZR 0), some (ZI o), none, none] [] 41 σ48
        refine zr_aload_n (pc := 54) hV dX12_readGuard_54 rfl rfl ?_
        refine zr_getR (pc := 55) hV 7 4 dX12_readGuard_55 fX12_29 rfl rfl rfl (by decide) (zx_g7 hσ48) (by omega) ?_
        refine zr_iload_n (pc := 58) hV dX12_readGuard_58 rfl rfl ?_
        refine zr_iconst (pc := 59) hV 4 dX12_readGuard_59 rfl ?_
        refine zr_iast (pc := 60) hV dX12_readGuard_60 rfl (by decide) rfl (by omega) (fun σ60 eσ60 => ?_)
        have hσ60 : zx_T σ60 := zx_ua4 eσ60 hσ48 (by omega)
        have hFσ60 : ∀ a i : Int, (¬ (a = 0 ∧ i = 15) ∧ ¬ (a = 3 ∧ i = o) ∧ ¬ (a = 4 ∧ i = o)) → σ60 a i = σ a i := fun a i h => by rw [eσ60, zq_up_ne (fun q => h.2.2 ⟨q.1, by omega⟩)]; exact hFσ48 a i h
        refine zr_goto (pc := 61) hV 98 dX12_readGuard_61 (by decide) ?_
        show V 98 [some (ZR 0), some (ZI o), none, none] [] 41 σ60
        refine zr_aload_n (pc := 98) hV dX12_readGuard_98 rfl rfl ?_
        refine zr_bipush (pc := 99) hV 44 dX12_readGuard_99 (by decide) ?_
        refine zr_callVi (pc := 101) hV [ZI 44] (st := []) (c_X12_takes (σ := σ60) hσ60 44 (by omega)) dX12_readGuard_101 mX12_234 rfl (by decide) (by decide) (Nat.le_of_ble_eq_true rfl) (Nat.le_refl _) (fun r101 σ101 hr101 pσ101 => ?_)
        obtain ⟨hσ101, hfσ101, pσ101⟩ := pσ101
        have hFσ101 : ∀ a i : Int, (¬ (a = 0 ∧ i = 15) ∧ ¬ (a = 3 ∧ i = o) ∧ ¬ (a = 4 ∧ i = o)) → σ101 a i = σ a i := fun a i h => (hfσ101 a i h.1).trans (hFσ60 a i h)
        have t36 := zx_g15 hσ60
        have t37 : σ60 0 15 = σ48 0 15 := by rw [eσ60]; exact zq_up_ne (by omega)
        have t38 := zx_g15 hσ101
        exact zr_zret (pc := 104) hV dX12_readGuard_104 rfl rfl (by omega) ⟨_, rfl, (by omega), hσ101, hFσ101, (by omega)⟩
    refine zr_if_eq (pc := 36) hV 43 dX12_readGuard_36 (by decide) (by omega) (fun c39 => ?_) (fun c39 => ?_)
    · show V 43 [some (ZR 0), some (ZI o), none, none] [ZI o, ZR 3] 41 σ33
      refine zr_iconst (pc := 43) hV 1 dX12_readGuard_43 rfl ?_
      exact J44 1 (by omega)
    · show V 39 [some (ZR 0), some (ZI o), none, none] [ZI o, ZR 3] 41 σ33
      refine zr_iconst (pc := 39) hV 2 dX12_readGuard_39 rfl ?_
      refine zr_goto (pc := 40) hV 44 dX12_readGuard_40 (by decide) ?_
      exact J44 2 (by omega)
  · show V 23 [some (ZR 0), some (ZI o), none, none] [] 41 σ17
    refine zr_iconst (pc := 23) hV 1 dX12_readGuard_23 rfl ?_
    exact zr_zret (pc := 24) hV dX12_readGuard_24 rfl rfl (by omega) ⟨_, rfl, ⟨by decide, by decide⟩, hσ17, hFσ17, (by omega)⟩
