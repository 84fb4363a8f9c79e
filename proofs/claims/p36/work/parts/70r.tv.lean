set_option maxHeartbeats 800000 in
theorem c_X12_bitsOf2 {σ : zq_S} (hσ : zx_T σ) (o : Int) (q0 : 0 ≤ o ∧ o ≤ 20) : zq_C zx_w yX12_bitsOf cX12_bitsOf 10 (some .int) 1 24 41 41 [ZR 0, ZI o] σ (zq_pp σ (fun r => 0 ≤ r ∧ r < zx_p2 (σ 0 2) ∧ r ≤ 4095 ∧ r = zu_rbt σ o (σ 19) (σ 0 2))) := by
  refine zq_C_of (by decide) (Nat.le_refl _) (Nat.le_of_ble_eq_true rfl) [some (ZR 0), some (ZI o), none, none, none, none, none, none, none, none] rfl (fun V hV => ?_)
  have z00 := zx_g2 hσ
  have z000 := zx_p2_0
  have zc00 := zx_cnt_0 σ o 0
  have zc01 := zx_cnt_0 σ o 1
  have zc02 := zx_cnt_0 σ o 2
  have zc03 := zx_cnt_0 σ o 3
  show V 0 [some (ZR 0), some (ZI o), none, none, none, none, none, none, none, none] [] 41 σ
  refine zr_iconst (pc := 0) hV 0 dX12_bitsOf_0 rfl ?_
  refine zr_istore_n (pc := 1) hV [some (ZR 0), some (ZI o), some (ZI 0), none, none, none, none, none, none, none] dX12_bitsOf_1 rfl (by decide) rfl rfl ?_
  refine zr_aload_n (pc := 2) hV dX12_bitsOf_2 rfl rfl ?_
  refine zr_iload_n (pc := 3) hV dX12_bitsOf_3 rfl rfl ?_
  refine zr_iconst (pc := 4) hV 0 dX12_bitsOf_4 rfl ?_
  refine zr_callVp (pc := 5) hV [ZI o, ZI 0] (st := []) (c_X12_fieldBits (σ := σ) hσ o 0 (by omega) (by omega)) dX12_bitsOf_5 mX12_184 rfl (by decide) (by decide) (Nat.le_of_ble_eq_true rfl) (Nat.le_refl _) (fun r5 hr5 pr5 => ?_)
  have t1 := zx_g2 hσ
  refine zr_istore_n (pc := 8) hV [some (ZR 0), some (ZI o), some (ZI 0), some (ZI r5), none, none, none, none, none, none] dX12_bitsOf_8 rfl (by decide) rfl rfl ?_
  refine zr_aload_n (pc := 9) hV dX12_bitsOf_9 rfl rfl ?_
  refine zr_iload_n (pc := 10) hV dX12_bitsOf_10 rfl rfl ?_
  refine zr_iconst (pc := 11) hV 1 dX12_bitsOf_11 rfl ?_
  refine zr_callVp (pc := 12) hV [ZI o, ZI 1] (st := []) (c_X12_fieldBits (σ := σ) hσ o 1 (by omega) (by omega)) dX12_bitsOf_12 mX12_184 rfl (by decide) (by decide) (Nat.le_of_ble_eq_true rfl) (Nat.le_refl _) (fun r12 hr12 pr12 => ?_)
  have t2 := zx_g2 hσ
  refine zr_istore (pc := 15) hV [some (ZR 0), some (ZI o), some (ZI 0), some (ZI r5), some (ZI r12), none, none, none, none, none] dX12_bitsOf_15 (by decide) rfl rfl ?_
  refine zr_aload_n (pc := 17) hV dX12_bitsOf_17 rfl rfl ?_
  refine zr_iload_n (pc := 18) hV dX12_bitsOf_18 rfl rfl ?_
  refine zr_iconst (pc := 19) hV 2 dX12_bitsOf_19 rfl ?_
  refine zr_callVp (pc := 20) hV [ZI o, ZI 2] (st := []) (c_X12_fieldBits (σ := σ) hσ o 2 (by omega) (by omega)) dX12_bitsOf_20 mX12_184 rfl (by decide) (by decide) (Nat.le_of_ble_eq_true rfl) (Nat.le_refl _) (fun r20 hr20 pr20 => ?_)
  have t3 := zx_g2 hσ
  refine zr_istore (pc := 23) hV [some (ZR 0), some (ZI o), some (ZI 0), some (ZI r5), some (ZI r12), some (ZI r20), none, none, none, none] dX12_bitsOf_23 (by decide) rfl rfl ?_
  refine zr_aload_n (pc := 25) hV dX12_bitsOf_25 rfl rfl ?_
  refine zr_iload_n (pc := 26) hV dX12_bitsOf_26 rfl rfl ?_
  refine zr_iconst (pc := 27) hV 3 dX12_bitsOf_27 rfl ?_
  refine zr_callVp (pc := 28) hV [ZI o, ZI 3] (st := []) (c_X12_fieldBits (σ := σ) hσ o 3 (by omega) (by omega)) dX12_bitsOf_28 mX12_184 rfl (by decide) (by decide) (Nat.le_of_ble_eq_true rfl) (Nat.le_refl _) (fun r28 hr28 pr28 => ?_)
  have t4 := zx_g2 hσ
  refine zr_istore (pc := 31) hV [some (ZR 0), some (ZI o), some (ZI 0), some (ZI r5), some (ZI r12), some (ZI r20), some (ZI r28), none, none, none] dX12_bitsOf_31 (by decide) rfl rfl ?_
  refine zr_iconst (pc := 33) hV 0 dX12_bitsOf_33 rfl ?_
  refine zr_istore (pc := 34) hV [some (ZR 0), some (ZI o), some (ZI 0), some (ZI r5), some (ZI r12), some (ZI r20), some (ZI r28), some (ZI 0), none, none] dX12_bitsOf_34 (by decide) rfl rfl ?_
  have L36 : ∀ (fuel : Nat) (x2_36 : Int) (x3_36 : Int) (x4_36 : Int) (x5_36 : Int) (x6_36 : Int) (x7_36 : Int), (0 ≤ x2_36 ∧ x2_36 ≤ 4095) → ((-12) ≤ x3_36 ∧ x3_36 ≤ 12) → ((-12) ≤ x4_36 ∧ x4_36 ≤ 12) → ((-12) ≤ x5_36 ∧ x5_36 ≤ 12) → ((-12) ≤ x6_36 ∧ x6_36 ≤ 12) → (0 ≤ x7_36 ∧ x7_36 ≤ 12) → (x2_36 < zx_p2 x7_36) → (x7_36 ≤ σ 0 2) → (0 ≤ x3_36 + x7_36) → (0 ≤ x4_36 + x7_36) → (0 ≤ x5_36 + x7_36) → (0 ≤ x6_36 + x7_36) → (x2_36 = zu_rbt σ o (σ 19) x7_36) → (x3_36 = zx_cnt σ o 0 (σ 0 2) - zx_cnt σ o 0 x7_36) → (x4_36 = zx_cnt σ o 1 (σ 0 2) - zx_cnt σ o 1 x7_36) → (x5_36 = zx_cnt σ o 2 (σ 0 2) - zx_cnt σ o 2 x7_36) → (x6_36 = zx_cnt σ o 3 (σ 0 2) - zx_cnt σ o 3 x7_36) → 12 - x7_36 < (fuel : Int) → V 36 [some (ZR 0), some (ZI o), some (ZI x2_36), some (ZI x3_36), some (ZI x4_36), some (ZI x5_36), some (ZI x6_36), some (ZI x7_36), none, none] [] 41 σ := by
    intro fuel
    induction fuel with
    | zero =>
      intro x2_36 x3_36 x4_36 x5_36 x6_36 x7_36 hx2_36 hx3_36 hx4_36 hx5_36 hx6_36 hx7_36 hi36_0 hi36_1 hi36_2 hi36_3 hi36_4 hi36_5 hi36_6 hi36_7 hi36_8 hi36_9 hi36_10 hm36
      exfalso; omega
    | succ fuel ih =>
      intro x2_36 x3_36 x4_36 x5_36 x6_36 x7_36 hx2_36 hx3_36 hx4_36 hx5_36 hx6_36 hx7_36 hi36_0 hi36_1 hi36_2 hi36_3 hi36_4 hi36_5 hi36_6 hi36_7 hi36_8 hi36_9 hi36_10 hm36
      have ih36 := ih
      show V 36 [some (ZR 0), some (ZI o), some (ZI x2_36), some (ZI x3_36), some (ZI x4_36), some (ZI x5_36), some (ZI x6_36), some (ZI x7_36), none, none] [] 41 σ
      refine zr_iload (pc := 36) hV dX12_bitsOf_36 rfl ?_
      refine zr_aload_n (pc := 38) hV dX12_bitsOf_38 rfl rfl ?_
      refine zr_getI (pc := 39) hV 2 dX12_bitsOf_39 fX12_16 rfl rfl rfl (by decide) ?_
      have t5 := zx_g2 hσ
      refine zr_icmp_ge (pc := 42) hV 172 dX12_bitsOf_42 (by decide) (by omega) (by omega) (fun c6 => ?_) (fun c6 => ?_)
      · show V 172 [some (ZR 0), some (ZI o), some (ZI x2_36), some (ZI x3_36), some (ZI x4_36), some (ZI x5_36), some (ZI x6_36), some (ZI x7_36), none, none] [] 41 σ
        refine zr_iload_n (pc := 172) hV dX12_bitsOf_172 rfl rfl ?_
        exact zr_iret (pc := 173) hV dX12_bitsOf_173 rfl rfl ⟨rfl, _, rfl, (by omega), ⟨by omega, by rw [show σ 0 2 = x7_36 by omega]; exact hi36_0, by omega, by rw [show σ 0 2 = x7_36 by omega]; exact hi36_6⟩⟩
      · show V 45 [some (ZR 0), some (ZI o), some (ZI x2_36), some (ZI x3_36), some (ZI x4_36), some (ZI x5_36), some (ZI x6_36), some (ZI x7_36), none, none] [] 41 σ
        have z1 := zx_p2_s x7_36 (by omega)
        have z2 := zx_p2_le (m := x7_36 + 1) (n := 12) (by omega)
        have z3 := zx_p2_12
        have zL1 : zt_L σ o x7_36 = σ 2 (12 * o + x7_36) := rfl
        have zc0 := zx_cnt_s σ o 0 x7_36 (by omega)
        have zc1 := zx_cnt_s σ o 1 x7_36 (by omega)
        have zc2 := zx_cnt_s σ o 2 x7_36 (by omega)
        have zc3 := zx_cnt_s σ o 3 x7_36 (by omega)
        refine zr_aload_n (pc := 45) hV dX12_bitsOf_45 rfl rfl ?_
        refine zr_getR (pc := 46) hV 5 2 dX12_bitsOf_46 fX12_23 rfl rfl rfl (by decide) (zx_g5 hσ) (by omega) ?_
        refine zr_bipush (pc := 49) hV 12 dX12_bitsOf_49 (by decide) ?_
        refine zr_iload_n (pc := 51) hV dX12_bitsOf_51 rfl rfl ?_
        refine zr_imul (pc := 52) hV dX12_bitsOf_52 ?_
        refine zr_iload (pc := 53) hV dX12_bitsOf_53 rfl ?_
        refine zr_iadd (pc := 55) hV dX12_bitsOf_55 ?_
        refine zr_iald (pc := 56) hV dX12_bitsOf_56 rfl (by decide) rfl (by omega) ?_
        have t7 := zx_ga2 hσ ((12 * o) + x7_36)
        refine zr_istore (pc := 57) hV [some (ZR 0), some (ZI o), some (ZI x2_36), some (ZI x3_36), some (ZI x4_36), some (ZI x5_36), some (ZI x6_36), some (ZI x7_36), some (ZI (σ 2 ((12 * o) + x7_36))), none] dX12_bitsOf_57 (by decide) rfl rfl ?_
        refine zr_iload (pc := 59) hV dX12_bitsOf_59 rfl ?_
        refine zr_istore (pc := 61) hV [some (ZR 0), some (ZI o), some (ZI x2_36), some (ZI x3_36), some (ZI x4_36), some (ZI x5_36), some (ZI x6_36), some (ZI x7_36), some (ZI (σ 2 ((12 * o) + x7_36))), some (ZI (σ 2 ((12 * o) + x7_36)))] dX12_bitsOf_61 (by decide) rfl rfl ?_
        refine zr_iload (pc := 63) hV dX12_bitsOf_63 rfl ?_
        refine zr_iconst (pc := 65) hV 2 dX12_bitsOf_65 rfl ?_
        refine zr_icmp_ne (pc := 66) hV 87 dX12_bitsOf_66 (by decide) (by omega) ⟨by decide, by decide⟩ (fun c8 => ?_) (fun c8 => ?_)
        · show V 87 [some (ZR 0), some (ZI o), some (ZI x2_36), some (ZI x3_36), some (ZI x4_36), some (ZI x5_36), some (ZI x6_36), some (ZI x7_36), some (ZI (σ 2 ((12 * o) + x7_36))), some (ZI (σ 2 ((12 * o) + x7_36)))] [] 41 σ
          refine zr_iload (pc := 87) hV dX12_bitsOf_87 rfl ?_
          refine zr_iconst (pc := 89) hV 3 dX12_bitsOf_89 rfl ?_
          refine zr_icmp_ne (pc := 90) hV 112 dX12_bitsOf_90 (by decide) (by omega) ⟨by decide, by decide⟩ (fun c9 => ?_) (fun c9 => ?_)
          · show V 112 [some (ZR 0), some (ZI o), some (ZI x2_36), some (ZI x3_36), some (ZI x4_36), some (ZI x5_36), some (ZI x6_36), some (ZI x7_36), some (ZI (σ 2 ((12 * o) + x7_36))), some (ZI (σ 2 ((12 * o) + x7_36)))] [] 41 σ
            refine zr_iload (pc := 112) hV dX12_bitsOf_112 rfl ?_
            refine zr_iconst (pc := 114) hV 4 dX12_bitsOf_114 rfl ?_
            refine zr_icmp_ne (pc := 115) hV 137 dX12_bitsOf_115 (by decide) (by omega) ⟨by decide, by decide⟩ (fun c10 => ?_) (fun c10 => ?_)
            · show V 137 [some (ZR 0), some (ZI o), some (ZI x2_36), some (ZI x3_36), some (ZI x4_36), some (ZI x5_36), some (ZI x6_36), some (ZI x7_36), some (ZI (σ 2 ((12 * o) + x7_36))), some (ZI (σ 2 ((12 * o) + x7_36)))] [] 41 σ
              refine zr_iload (pc := 137) hV dX12_bitsOf_137 rfl ?_
              refine zr_iconst (pc := 139) hV 5 dX12_bitsOf_139 rfl ?_
              refine zr_icmp_ne (pc := 140) hV 159 dX12_bitsOf_140 (by decide) (by omega) ⟨by decide, by decide⟩ (fun c11 => ?_) (fun c11 => ?_)
              · show V 159 [some (ZR 0), some (ZI o), some (ZI x2_36), some (ZI x3_36), some (ZI x4_36), some (ZI x5_36), some (ZI x6_36), some (ZI x7_36), some (ZI (σ 2 ((12 * o) + x7_36))), some (ZI (σ 2 ((12 * o) + x7_36)))] [] 41 σ
                refine zr_iconst (pc := 159) hV 2 dX12_bitsOf_159 rfl ?_
                refine zr_iload_n (pc := 160) hV dX12_bitsOf_160 rfl rfl ?_
                refine zr_imul (pc := 161) hV dX12_bitsOf_161 ?_
                refine zr_iload (pc := 162) hV dX12_bitsOf_162 rfl ?_
                refine zr_iadd (pc := 164) hV dX12_bitsOf_164 ?_
                refine zr_istore_n (pc := 165) hV [some (ZR 0), some (ZI o), some (ZI ((2 * x2_36) + (σ 2 ((12 * o) + x7_36)))), some (ZI x3_36), some (ZI x4_36), some (ZI x5_36), some (ZI x6_36), some (ZI x7_36), some (ZI (σ 2 ((12 * o) + x7_36))), some (ZI (σ 2 ((12 * o) + x7_36)))] dX12_bitsOf_165 rfl (by decide) rfl rfl ?_
                refine zr_iinc (pc := 166) hV [some (ZR 0), some (ZI o), some (ZI ((2 * x2_36) + (σ 2 ((12 * o) + x7_36)))), some (ZI x3_36), some (ZI x4_36), some (ZI x5_36), some (ZI x6_36), some (ZI (x7_36 + 1)), some (ZI (σ 2 ((12 * o) + x7_36))), some (ZI (σ 2 ((12 * o) + x7_36)))] (x7_36 + 1) dX12_bitsOf_166 rfl rfl (by decide) rfl rfl ?_
                refine zr_goto (pc := 169) hV 36 dX12_bitsOf_169 (by decide) ?_
                have t12 := zx_g2 hσ
                have t13 := zx_g2 hσ
                have t14 := zx_g2 hσ
                have t15 := zx_g2 hσ
                have t16 := zx_g2 hσ
                refine zr_sub (pc := 36) hV [some (ZR 0), some (ZI o), some (ZI ((2 * x2_36) + (σ 2 ((12 * o) + x7_36)))), some (ZI x3_36), some (ZI x4_36), some (ZI x5_36), some (ZI x6_36), some (ZI (x7_36 + 1)), none, none] (⟨rfl, rfl, rfl, rfl, rfl, rfl, rfl, rfl, trivial⟩) ?_
                exact ih36 ((2 * x2_36) + (σ 2 ((12 * o) + x7_36))) x3_36 x4_36 x5_36 x6_36 (x7_36 + 1) (by omega) (by omega) (by omega) (by omega) (by omega) (by omega) (by omega) (by omega) (by omega) (by omega) (by omega) (by omega) (by rw [zu_rbt_s (by omega) ((zu_rbi_b (by omega)).trans zL1) (by omega), ← hi36_6]) (by omega) (by omega) (by omega) (by omega) (by omega)
              · show V 143 [some (ZR 0), some (ZI o), some (ZI x2_36), some (ZI x3_36), some (ZI x4_36), some (ZI x5_36), some (ZI x6_36), some (ZI x7_36), some (ZI (σ 2 ((12 * o) + x7_36))), some (ZI (σ 2 ((12 * o) + x7_36)))] [] 41 σ
                refine zr_iinc (pc := 143) hV [some (ZR 0), some (ZI o), some (ZI x2_36), some (ZI x3_36), some (ZI x4_36), some (ZI x5_36), some (ZI (x6_36 + (-1))), some (ZI x7_36), some (ZI (σ 2 ((12 * o) + x7_36))), some (ZI (σ 2 ((12 * o) + x7_36)))] (x6_36 + (-1)) dX12_bitsOf_143 rfl rfl (by decide) rfl rfl ?_
                refine zr_aload_n (pc := 146) hV dX12_bitsOf_146 rfl rfl ?_
                refine zr_getR (pc := 147) hV 32 19 dX12_bitsOf_147 fX12_78 rfl rfl rfl (by decide) (zx_g32 hσ) (by omega) ?_
                refine zr_iconst (pc := 150) hV 3 dX12_bitsOf_150 rfl ?_
                refine zr_iald (pc := 151) hV dX12_bitsOf_151 rfl (by decide) rfl (by omega) ?_
                have t17 := zx_ga19 hσ 3
                refine zr_iload (pc := 152) hV dX12_bitsOf_152 rfl ?_
                refine zr_ishr (pc := 154) hV dX12_bitsOf_154 ?_
                have t18 := zq_shr_in (σ 19 3) (x6_36 + (-1))
                refine zr_iconst (pc := 155) hV 1 dX12_bitsOf_155 rfl ?_
                refine zr_iand (pc := 156) hV dX12_bitsOf_156 ?_
                have t19 := zq_and_mask (zq_shr (σ 19 3) (x6_36 + (-1))) 1 1 2 (by decide) (by decide) (by decide)
                refine zr_istore (pc := 157) hV [some (ZR 0), some (ZI o), some (ZI x2_36), some (ZI x3_36), some (ZI x4_36), some (ZI x5_36), some (ZI (x6_36 + (-1))), some (ZI x7_36), some (ZI (σ 2 ((12 * o) + x7_36))), some (ZI (zq_and (zq_shr (σ 19 3) (x6_36 + (-1))) 1))] dX12_bitsOf_157 (by decide) rfl rfl ?_
                show V 159 [some (ZR 0), some (ZI o), some (ZI x2_36), some (ZI x3_36), some (ZI x4_36), some (ZI x5_36), some (ZI (x6_36 + (-1))), some (ZI x7_36), some (ZI (σ 2 ((12 * o) + x7_36))), some (ZI (zq_and (zq_shr (σ 19 3) (x6_36 + (-1))) 1))] [] 41 σ
                refine zr_iconst (pc := 159) hV 2 dX12_bitsOf_159 rfl ?_
                refine zr_iload_n (pc := 160) hV dX12_bitsOf_160 rfl rfl ?_
                refine zr_imul (pc := 161) hV dX12_bitsOf_161 ?_
                refine zr_iload (pc := 162) hV dX12_bitsOf_162 rfl ?_
                refine zr_iadd (pc := 164) hV dX12_bitsOf_164 ?_
                refine zr_istore_n (pc := 165) hV [some (ZR 0), some (ZI o), some (ZI ((2 * x2_36) + (zq_and (zq_shr (σ 19 3) (x6_36 + (-1))) 1))), some (ZI x3_36), some (ZI x4_36), some (ZI x5_36), some (ZI (x6_36 + (-1))), some (ZI x7_36), some (ZI (σ 2 ((12 * o) + x7_36))), some (ZI (zq_and (zq_shr (σ 19 3) (x6_36 + (-1))) 1))] dX12_bitsOf_165 rfl (by decide) rfl rfl ?_
                refine zr_iinc (pc := 166) hV [some (ZR 0), some (ZI o), some (ZI ((2 * x2_36) + (zq_and (zq_shr (σ 19 3) (x6_36 + (-1))) 1))), some (ZI x3_36), some (ZI x4_36), some (ZI x5_36), some (ZI (x6_36 + (-1))), some (ZI (x7_36 + 1)), some (ZI (σ 2 ((12 * o) + x7_36))), some (ZI (zq_and (zq_shr (σ 19 3) (x6_36 + (-1))) 1))] (x7_36 + 1) dX12_bitsOf_166 rfl rfl (by decide) rfl rfl ?_
                refine zr_goto (pc := 169) hV 36 dX12_bitsOf_169 (by decide) ?_
                have t20 := zx_g2 hσ
                have t21 := zx_g2 hσ
                have t22 := zx_g2 hσ
                have t23 := zx_g2 hσ
                have t24 := zx_g2 hσ
                refine zr_sub (pc := 36) hV [some (ZR 0), some (ZI o), some (ZI ((2 * x2_36) + (zq_and (zq_shr (σ 19 3) (x6_36 + (-1))) 1))), some (ZI x3_36), some (ZI x4_36), some (ZI x5_36), some (ZI (x6_36 + (-1))), some (ZI (x7_36 + 1)), none, none] (⟨rfl, rfl, rfl, rfl, rfl, rfl, rfl, rfl, trivial⟩) ?_
                exact ih36 ((2 * x2_36) + (zq_and (zq_shr (σ 19 3) (x6_36 + (-1))) 1)) x3_36 x4_36 x5_36 (x6_36 + (-1)) (x7_36 + 1) (by omega) (by omega) (by omega) (by omega) (by omega) (by omega) (by omega) (by omega) (by omega) (by omega) (by omega) (by omega) (by rw [zu_rbt_s (by omega) (zu_rbi_5 (c := x6_36 + (-1)) (by omega) (by omega)) (by omega), ← hi36_6]) (by omega) (by omega) (by omega) (by omega) (by omega)
            · show V 118 [some (ZR 0), some (ZI o), some (ZI x2_36), some (ZI x3_36), some (ZI x4_36), some (ZI x5_36), some (ZI x6_36), some (ZI x7_36), some (ZI (σ 2 ((12 * o) + x7_36))), some (ZI (σ 2 ((12 * o) + x7_36)))] [] 41 σ
              refine zr_iinc (pc := 118) hV [some (ZR 0), some (ZI o), some (ZI x2_36), some (ZI x3_36), some (ZI x4_36), some (ZI (x5_36 + (-1))), some (ZI x6_36), some (ZI x7_36), some (ZI (σ 2 ((12 * o) + x7_36))), some (ZI (σ 2 ((12 * o) + x7_36)))] (x5_36 + (-1)) dX12_bitsOf_118 rfl rfl (by decide) rfl rfl ?_
              refine zr_aload_n (pc := 121) hV dX12_bitsOf_121 rfl rfl ?_
              refine zr_getR (pc := 122) hV 32 19 dX12_bitsOf_122 fX12_78 rfl rfl rfl (by decide) (zx_g32 hσ) (by omega) ?_
              refine zr_iconst (pc := 125) hV 2 dX12_bitsOf_125 rfl ?_
              refine zr_iald (pc := 126) hV dX12_bitsOf_126 rfl (by decide) rfl (by omega) ?_
              have t25 := zx_ga19 hσ 2
              refine zr_iload (pc := 127) hV dX12_bitsOf_127 rfl ?_
              refine zr_ishr (pc := 129) hV dX12_bitsOf_129 ?_
              have t26 := zq_shr_in (σ 19 2) (x5_36 + (-1))
              refine zr_iconst (pc := 130) hV 1 dX12_bitsOf_130 rfl ?_
              refine zr_iand (pc := 131) hV dX12_bitsOf_131 ?_
              have t27 := zq_and_mask (zq_shr (σ 19 2) (x5_36 + (-1))) 1 1 2 (by decide) (by decide) (by decide)
              refine zr_istore (pc := 132) hV [some (ZR 0), some (ZI o), some (ZI x2_36), some (ZI x3_36), some (ZI x4_36), some (ZI (x5_36 + (-1))), some (ZI x6_36), some (ZI x7_36), some (ZI (σ 2 ((12 * o) + x7_36))), some (ZI (zq_and (zq_shr (σ 19 2) (x5_36 + (-1))) 1))] dX12_bitsOf_132 (by decide) rfl rfl ?_
              refine zr_goto (pc := 134) hV 159 dX12_bitsOf_134 (by decide) ?_
              show V 159 [some (ZR 0), some (ZI o), some (ZI x2_36), some (ZI x3_36), some (ZI x4_36), some (ZI (x5_36 + (-1))), some (ZI x6_36), some (ZI x7_36), some (ZI (σ 2 ((12 * o) + x7_36))), some (ZI (zq_and (zq_shr (σ 19 2) (x5_36 + (-1))) 1))] [] 41 σ
              refine zr_iconst (pc := 159) hV 2 dX12_bitsOf_159 rfl ?_
              refine zr_iload_n (pc := 160) hV dX12_bitsOf_160 rfl rfl ?_
              refine zr_imul (pc := 161) hV dX12_bitsOf_161 ?_
              refine zr_iload (pc := 162) hV dX12_bitsOf_162 rfl ?_
              refine zr_iadd (pc := 164) hV dX12_bitsOf_164 ?_
              refine zr_istore_n (pc := 165) hV [some (ZR 0), some (ZI o), some (ZI ((2 * x2_36) + (zq_and (zq_shr (σ 19 2) (x5_36 + (-1))) 1))), some (ZI x3_36), some (ZI x4_36), some (ZI (x5_36 + (-1))), some (ZI x6_36), some (ZI x7_36), some (ZI (σ 2 ((12 * o) + x7_36))), some (ZI (zq_and (zq_shr (σ 19 2) (x5_36 + (-1))) 1))] dX12_bitsOf_165 rfl (by decide) rfl rfl ?_
              refine zr_iinc (pc := 166) hV [some (ZR 0), some (ZI o), some (ZI ((2 * x2_36) + (zq_and (zq_shr (σ 19 2) (x5_36 + (-1))) 1))), some (ZI x3_36), some (ZI x4_36), some (ZI (x5_36 + (-1))), some (ZI x6_36), some (ZI (x7_36 + 1)), some (ZI (σ 2 ((12 * o) + x7_36))), some (ZI (zq_and (zq_shr (σ 19 2) (x5_36 + (-1))) 1))] (x7_36 + 1) dX12_bitsOf_166 rfl rfl (by decide) rfl rfl ?_
              refine zr_goto (pc := 169) hV 36 dX12_bitsOf_169 (by decide) ?_
              have t28 := zx_g2 hσ
              have t29 := zx_g2 hσ
              have t30 := zx_g2 hσ
              have t31 := zx_g2 hσ
              have t32 := zx_g2 hσ
              refine zr_sub (pc := 36) hV [some (ZR 0), some (ZI o), some (ZI ((2 * x2_36) + (zq_and (zq_shr (σ 19 2) (x5_36 + (-1))) 1))), some (ZI x3_36), some (ZI x4_36), some (ZI (x5_36 + (-1))), some (ZI x6_36), some (ZI (x7_36 + 1)), none, none] (⟨rfl, rfl, rfl, rfl, rfl, rfl, rfl, rfl, trivial⟩) ?_
              exact ih36 ((2 * x2_36) + (zq_and (zq_shr (σ 19 2) (x5_36 + (-1))) 1)) x3_36 x4_36 (x5_36 + (-1)) x6_36 (x7_36 + 1) (by omega) (by omega) (by omega) (by omega) (by omega) (by omega) (by omega) (by omega) (by omega) (by omega) (by omega) (by omega) (by rw [zu_rbt_s (by omega) (zu_rbi_4 (c := x5_36 + (-1)) (by omega) (by omega)) (by omega), ← hi36_6]) (by omega) (by omega) (by omega) (by omega) (by omega)
          · show V 93 [some (ZR 0), some (ZI o), some (ZI x2_36), some (ZI x3_36), some (ZI x4_36), some (ZI x5_36), some (ZI x6_36), some (ZI x7_36), some (ZI (σ 2 ((12 * o) + x7_36))), some (ZI (σ 2 ((12 * o) + x7_36)))] [] 41 σ
            refine zr_iinc (pc := 93) hV [some (ZR 0), some (ZI o), some (ZI x2_36), some (ZI x3_36), some (ZI (x4_36 + (-1))), some (ZI x5_36), some (ZI x6_36), some (ZI x7_36), some (ZI (σ 2 ((12 * o) + x7_36))), some (ZI (σ 2 ((12 * o) + x7_36)))] (x4_36 + (-1)) dX12_bitsOf_93 rfl rfl (by decide) rfl rfl ?_
            refine zr_aload_n (pc := 96) hV dX12_bitsOf_96 rfl rfl ?_
            refine zr_getR (pc := 97) hV 32 19 dX12_bitsOf_97 fX12_78 rfl rfl rfl (by decide) (zx_g32 hσ) (by omega) ?_
            refine zr_iconst (pc := 100) hV 1 dX12_bitsOf_100 rfl ?_
            refine zr_iald (pc := 101) hV dX12_bitsOf_101 rfl (by decide) rfl (by omega) ?_
            have t33 := zx_ga19 hσ 1
            refine zr_iload (pc := 102) hV dX12_bitsOf_102 rfl ?_
            refine zr_ishr (pc := 104) hV dX12_bitsOf_104 ?_
            have t34 := zq_shr_in (σ 19 1) (x4_36 + (-1))
            refine zr_iconst (pc := 105) hV 1 dX12_bitsOf_105 rfl ?_
            refine zr_iand (pc := 106) hV dX12_bitsOf_106 ?_
            have t35 := zq_and_mask (zq_shr (σ 19 1) (x4_36 + (-1))) 1 1 2 (by decide) (by decide) (by decide)
            refine zr_istore (pc := 107) hV [some (ZR 0), some (ZI o), some (ZI x2_36), some (ZI x3_36), some (ZI (x4_36 + (-1))), some (ZI x5_36), some (ZI x6_36), some (ZI x7_36), some (ZI (σ 2 ((12 * o) + x7_36))), some (ZI (zq_and (zq_shr (σ 19 1) (x4_36 + (-1))) 1))] dX12_bitsOf_107 (by decide) rfl rfl ?_
            refine zr_goto (pc := 109) hV 159 dX12_bitsOf_109 (by decide) ?_
            show V 159 [some (ZR 0), some (ZI o), some (ZI x2_36), some (ZI x3_36), some (ZI (x4_36 + (-1))), some (ZI x5_36), some (ZI x6_36), some (ZI x7_36), some (ZI (σ 2 ((12 * o) + x7_36))), some (ZI (zq_and (zq_shr (σ 19 1) (x4_36 + (-1))) 1))] [] 41 σ
            refine zr_iconst (pc := 159) hV 2 dX12_bitsOf_159 rfl ?_
            refine zr_iload_n (pc := 160) hV dX12_bitsOf_160 rfl rfl ?_
            refine zr_imul (pc := 161) hV dX12_bitsOf_161 ?_
            refine zr_iload (pc := 162) hV dX12_bitsOf_162 rfl ?_
            refine zr_iadd (pc := 164) hV dX12_bitsOf_164 ?_
            refine zr_istore_n (pc := 165) hV [some (ZR 0), some (ZI o), some (ZI ((2 * x2_36) + (zq_and (zq_shr (σ 19 1) (x4_36 + (-1))) 1))), some (ZI x3_36), some (ZI (x4_36 + (-1))), some (ZI x5_36), some (ZI x6_36), some (ZI x7_36), some (ZI (σ 2 ((12 * o) + x7_36))), some (ZI (zq_and (zq_shr (σ 19 1) (x4_36 + (-1))) 1))] dX12_bitsOf_165 rfl (by decide) rfl rfl ?_
            refine zr_iinc (pc := 166) hV [some (ZR 0), some (ZI o), some (ZI ((2 * x2_36) + (zq_and (zq_shr (σ 19 1) (x4_36 + (-1))) 1))), some (ZI x3_36), some (ZI (x4_36 + (-1))), some (ZI x5_36), some (ZI x6_36), some (ZI (x7_36 + 1)), some (ZI (σ 2 ((12 * o) + x7_36))), some (ZI (zq_and (zq_shr (σ 19 1) (x4_36 + (-1))) 1))] (x7_36 + 1) dX12_bitsOf_166 rfl rfl (by decide) rfl rfl ?_
            refine zr_goto (pc := 169) hV 36 dX12_bitsOf_169 (by decide) ?_
            have t36 := zx_g2 hσ
            have t37 := zx_g2 hσ
            have t38 := zx_g2 hσ
            have t39 := zx_g2 hσ
            have t40 := zx_g2 hσ
            refine zr_sub (pc := 36) hV [some (ZR 0), some (ZI o), some (ZI ((2 * x2_36) + (zq_and (zq_shr (σ 19 1) (x4_36 + (-1))) 1))), some (ZI x3_36), some (ZI (x4_36 + (-1))), some (ZI x5_36), some (ZI x6_36), some (ZI (x7_36 + 1)), none, none] (⟨rfl, rfl, rfl, rfl, rfl, rfl, rfl, rfl, trivial⟩) ?_
            exact ih36 ((2 * x2_36) + (zq_and (zq_shr (σ 19 1) (x4_36 + (-1))) 1)) x3_36 (x4_36 + (-1)) x5_36 x6_36 (x7_36 + 1) (by omega) (by omega) (by omega) (by omega) (by omega) (by omega) (by omega) (by omega) (by omega) (by omega) (by omega) (by omega) (by rw [zu_rbt_s (by omega) (zu_rbi_3 (c := x4_36 + (-1)) (by omega) (by omega)) (by omega), ← hi36_6]) (by omega) (by omega) (by omega) (by omega) (by omega)
        · show V 69 [some (ZR 0), some (ZI o), some (ZI x2_36), some (ZI x3_36), some (ZI x4_36), some (ZI x5_36), some (ZI x6_36), some (ZI x7_36), some (ZI (σ 2 ((12 * o) + x7_36))), some (ZI (σ 2 ((12 * o) + x7_36)))] [] 41 σ
          refine zr_iinc (pc := 69) hV [some (ZR 0), some (ZI o), some (ZI x2_36), some (ZI (x3_36 + (-1))), some (ZI x4_36), some (ZI x5_36), some (ZI x6_36), some (ZI x7_36), some (ZI (σ 2 ((12 * o) + x7_36))), some (ZI (σ 2 ((12 * o) + x7_36)))] (x3_36 + (-1)) dX12_bitsOf_69 rfl rfl (by decide) rfl rfl ?_
          refine zr_aload_n (pc := 72) hV dX12_bitsOf_72 rfl rfl ?_
          refine zr_getR (pc := 73) hV 32 19 dX12_bitsOf_73 fX12_78 rfl rfl rfl (by decide) (zx_g32 hσ) (by omega) ?_
          refine zr_iconst (pc := 76) hV 0 dX12_bitsOf_76 rfl ?_
          refine zr_iald (pc := 77) hV dX12_bitsOf_77 rfl (by decide) rfl (by omega) ?_
          have t41 := zx_ga19 hσ 0
          refine zr_iload_n (pc := 78) hV dX12_bitsOf_78 rfl rfl ?_
          refine zr_ishr (pc := 79) hV dX12_bitsOf_79 ?_
          have t42 := zq_shr_in (σ 19 0) (x3_36 + (-1))
          refine zr_iconst (pc := 80) hV 1 dX12_bitsOf_80 rfl ?_
          refine zr_iand (pc := 81) hV dX12_bitsOf_81 ?_
          have t43 := zq_and_mask (zq_shr (σ 19 0) (x3_36 + (-1))) 1 1 2 (by decide) (by decide) (by decide)
          refine zr_istore (pc := 82) hV [some (ZR 0), some (ZI o), some (ZI x2_36), some (ZI (x3_36 + (-1))), some (ZI x4_36), some (ZI x5_36), some (ZI x6_36), some (ZI x7_36), some (ZI (σ 2 ((12 * o) + x7_36))), some (ZI (zq_and (zq_shr (σ 19 0) (x3_36 + (-1))) 1))] dX12_bitsOf_82 (by decide) rfl rfl ?_
          refine zr_goto (pc := 84) hV 159 dX12_bitsOf_84 (by decide) ?_
          show V 159 [some (ZR 0), some (ZI o), some (ZI x2_36), some (ZI (x3_36 + (-1))), some (ZI x4_36), some (ZI x5_36), some (ZI x6_36), some (ZI x7_36), some (ZI (σ 2 ((12 * o) + x7_36))), some (ZI (zq_and (zq_shr (σ 19 0) (x3_36 + (-1))) 1))] [] 41 σ
          refine zr_iconst (pc := 159) hV 2 dX12_bitsOf_159 rfl ?_
          refine zr_iload_n (pc := 160) hV dX12_bitsOf_160 rfl rfl ?_
          refine zr_imul (pc := 161) hV dX12_bitsOf_161 ?_
          refine zr_iload (pc := 162) hV dX12_bitsOf_162 rfl ?_
          refine zr_iadd (pc := 164) hV dX12_bitsOf_164 ?_
          refine zr_istore_n (pc := 165) hV [some (ZR 0), some (ZI o), some (ZI ((2 * x2_36) + (zq_and (zq_shr (σ 19 0) (x3_36 + (-1))) 1))), some (ZI (x3_36 + (-1))), some (ZI x4_36), some (ZI x5_36), some (ZI x6_36), some (ZI x7_36), some (ZI (σ 2 ((12 * o) + x7_36))), some (ZI (zq_and (zq_shr (σ 19 0) (x3_36 + (-1))) 1))] dX12_bitsOf_165 rfl (by decide) rfl rfl ?_
          refine zr_iinc (pc := 166) hV [some (ZR 0), some (ZI o), some (ZI ((2 * x2_36) + (zq_and (zq_shr (σ 19 0) (x3_36 + (-1))) 1))), some (ZI (x3_36 + (-1))), some (ZI x4_36), some (ZI x5_36), some (ZI x6_36), some (ZI (x7_36 + 1)), some (ZI (σ 2 ((12 * o) + x7_36))), some (ZI (zq_and (zq_shr (σ 19 0) (x3_36 + (-1))) 1))] (x7_36 + 1) dX12_bitsOf_166 rfl rfl (by decide) rfl rfl ?_
          refine zr_goto (pc := 169) hV 36 dX12_bitsOf_169 (by decide) ?_
          have t44 := zx_g2 hσ
          have t45 := zx_g2 hσ
          have t46 := zx_g2 hσ
          have t47 := zx_g2 hσ
          have t48 := zx_g2 hσ
          refine zr_sub (pc := 36) hV [some (ZR 0), some (ZI o), some (ZI ((2 * x2_36) + (zq_and (zq_shr (σ 19 0) (x3_36 + (-1))) 1))), some (ZI (x3_36 + (-1))), some (ZI x4_36), some (ZI x5_36), some (ZI x6_36), some (ZI (x7_36 + 1)), none, none] (⟨rfl, rfl, rfl, rfl, rfl, rfl, rfl, rfl, trivial⟩) ?_
          exact ih36 ((2 * x2_36) + (zq_and (zq_shr (σ 19 0) (x3_36 + (-1))) 1)) (x3_36 + (-1)) x4_36 x5_36 x6_36 (x7_36 + 1) (by omega) (by omega) (by omega) (by omega) (by omega) (by omega) (by omega) (by omega) (by omega) (by omega) (by omega) (by omega) (by rw [zu_rbt_s (by omega) (zu_rbi_2 (c := x3_36 + (-1)) (by omega) (by omega)) (by omega), ← hi36_6]) (by omega) (by omega) (by omega) (by omega) (by omega)
  have t49 := zx_g2 hσ
  have t50 := zx_g2 hσ
  have t51 := zx_g2 hσ
  have t52 := zx_g2 hσ
  have t53 := zx_g2 hσ
  exact L36 (12 - (0 : Int) + 1 : Int).toNat 0 r5 r12 r20 r28 0 (by omega) (by omega) (by omega) (by omega) (by omega) (by omega) (by omega) (by omega) (by omega) (by omega) (by omega) (by omega) rfl (by omega) (by omega) (by omega) (by omega) (by omega)
