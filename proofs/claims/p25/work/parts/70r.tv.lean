set_option maxHeartbeats 800000 in
theorem c_X12_named3 {σ : zq_S} (hσ : zx_T σ) (name : Int) (q0 : zq_in name) : zq_C zx_w yX12_named cX12_named 3 (some .int) 0 0 41 41 [ZR 0, ZI name] σ (zq_pp σ (fun r => -4 ≤ r ∧ r < 20 ∧ (0 ≤ r → r < σ 0 3) ∧ zq_hid ((0 ≤ r → σ 1 r = name ∧ ∀ i, 0 ≤ i → i < r → σ 1 i ≠ name) ∧ (r < 0 → ∀ i, 0 ≤ i → i < σ 0 3 → σ 1 i ≠ name)))) := by
  refine zq_C_of (by decide) (Nat.le_refl _) (Nat.le_of_ble_eq_true rfl) [some (ZR 0), some (ZI name), none] rfl (fun V hV => ?_)
  show V 0 [some (ZR 0), some (ZI name), none] [] 41 σ
  refine zr_iconst (pc := 0) hV 0 dX12_named_0 rfl ?_
  refine zr_istore_n (pc := 1) hV [some (ZR 0), some (ZI name), some (ZI 0)] dX12_named_1 rfl (by decide) rfl rfl ?_
  have L2 : ∀ (fuel : Nat) (x2_2 : Int), (0 ≤ x2_2 ∧ x2_2 ≤ 20) → (zq_hid (∀ i, 0 ≤ i → i < x2_2 → σ 1 i ≠ name)) → 20 - x2_2 < (fuel : Int) → V 2 [some (ZR 0), some (ZI name), some (ZI x2_2)] [] 41 σ := by
    intro fuel
    induction fuel with
    | zero =>
      intro x2_2 hx2_2 hi2_0 hm2
      exfalso; omega
    | succ fuel ih =>
      intro x2_2 hx2_2 hi2_0 hm2
      have ih2 := ih
      show V 2 [some (ZR 0), some (ZI name), some (ZI x2_2)] [] 41 σ
      refine zr_iload_n (pc := 2) hV dX12_named_2 rfl rfl ?_
      refine zr_aload_n (pc := 3) hV dX12_named_3 rfl rfl ?_
      refine zr_getI (pc := 4) hV 3 dX12_named_4 fX12_150 rfl rfl rfl (by decide) ?_
      have t1 := zx_g3 hσ
      refine zr_icmp_ge (pc := 7) hV 28 dX12_named_7 (by decide) (by omega) (by omega) (fun c2 => ?_) (fun c2 => ?_)
      · show V 28 [some (ZR 0), some (ZI name), some (ZI x2_2)] [] 41 σ
        refine zr_bipush (pc := 28) hV (-4) dX12_named_28 (by decide) ?_
        exact zr_iret (pc := 30) hV dX12_named_30 rfl rfl ⟨rfl, _, rfl, ⟨by decide, by decide⟩, ⟨by omega, by omega, by omega, ⟨fun h => absurd h (by omega), fun _ i h0 h1 => hi2_0 i h0 (by omega)⟩⟩⟩
      · show V 10 [some (ZR 0), some (ZI name), some (ZI x2_2)] [] 41 σ
        refine zr_aload_n (pc := 10) hV dX12_named_10 rfl rfl ?_
        refine zr_getR (pc := 11) hV 4 1 dX12_named_11 fX12_19 rfl rfl rfl (by decide) (zx_g4 hσ) (by omega) ?_
        refine zr_iload_n (pc := 14) hV dX12_named_14 rfl rfl ?_
        refine zr_iald (pc := 15) hV dX12_named_15 rfl (by decide) rfl (by omega) ?_
        have t3 := zx_ga1 hσ x2_2
        refine zr_iload_n (pc := 16) hV dX12_named_16 rfl rfl ?_
        refine zr_icmp_ne (pc := 17) hV 22 dX12_named_17 (by decide) (by omega) (by omega) (fun c4 => ?_) (fun c4 => ?_)
        · show V 22 [some (ZR 0), some (ZI name), some (ZI x2_2)] [] 41 σ
          refine zr_iinc (pc := 22) hV [some (ZR 0), some (ZI name), some (ZI (x2_2 + 1))] (x2_2 + 1) dX12_named_22 rfl rfl (by decide) rfl rfl ?_
          refine zr_goto (pc := 25) hV 2 dX12_named_25 (by decide) ?_
          exact ih2 (x2_2 + 1) (by omega) (fun i h0 h1 => if hc : i = x2_2 then (by rw [hc]; omega) else hi2_0 i h0 (by omega)) (by omega)
        · show V 20 [some (ZR 0), some (ZI name), some (ZI x2_2)] [] 41 σ
          refine zr_iload_n (pc := 20) hV dX12_named_20 rfl rfl ?_
          exact zr_iret (pc := 21) hV dX12_named_21 rfl rfl ⟨rfl, _, rfl, (by omega), ⟨by omega, by omega, by omega, ⟨fun _ => ⟨by omega, fun i h0 h1 => hi2_0 i h0 (by omega)⟩, fun h => absurd h (by omega)⟩⟩⟩
  exact L2 (20 - (0 : Int) + 1 : Int).toNat 0 (by omega) (fun i h0 h1 => absurd h1 (by omega)) (by omega)
set_option maxHeartbeats 800000 in
theorem c_X12_bitsOf2 {σ : zq_S} (hσ : zx_T σ) (o : Int) (q0 : 0 ≤ o ∧ o ≤ 20) : zq_C zx_w yX12_bitsOf cX12_bitsOf 10 (some .int) 1 24 41 41 [ZR 0, ZI o] σ (zq_pp σ (fun r => 0 ≤ r ∧ r < zx_p2 (σ 0 2) ∧ r ≤ 4095 ∧ r = zu_rbt σ o (σ 19) (σ 0 2))) := by
  refine zq_C_of (by decide) (Nat.le_refl _) (Nat.le_of_ble_eq_true rfl) [some (ZR 0), some (ZI o), none, none, none, none, none, none, none, none] rfl (fun V hV => ?_)
  have z00 := zx_g2 hσ
  have z000 := zx_p2_0
  have zc00 := zx_cnt_0 σ o 0
  have zc01 := zx_cnt_0 σ o 1
  have zc02 := zx_cnt_0 σ o 2
  have zc03 := zx_cnt_0 σ o 3
  show V 0 [some (ZR 0), some (ZI o), none, none, none, none, none, none, none, none] [] 41 σ
  refine zr_iconst (pc := 0) hV 0 dX12_bitsOf_0 rfl ?_
  refine zr_istore_n (pc := 1) hV [some (ZR 0), some (ZI o), some (ZI 0), none, none, none, none, none, none, none] dX12_bitsOf_1 rfl (by decide) rfl rfl ?_
  refine zr_aload_n (pc := 2) hV dX12_bitsOf_2 rfl rfl ?_
  refine zr_iload_n (pc := 3) hV dX12_bitsOf_3 rfl rfl ?_
  refine zr_iconst (pc := 4) hV 0 dX12_bitsOf_4 rfl ?_
  refine zr_callVp (pc := 5) hV [ZI o, ZI 0] (st := []) (c_X12_fieldBits (σ := σ) hσ o 0 (by omega) (by omega)) dX12_bitsOf_5 mX12_184 rfl (by decide) (by decide) (Nat.le_of_ble_eq_true rfl) (Nat.le_refl _) (fun r5 hr5 pr5 => ?_)
  have t1 := zx_g2 hσ
  refine zr_istore_n (pc := 8) hV [some (ZR 0), some (ZI o), some (ZI 0), some (ZI r5), none, none, none, none, none, none] dX12_bitsOf_8 rfl (by decide) rfl rfl ?_
  refine zr_aload_n (pc := 9) hV dX12_bitsOf_9 rfl rfl ?_
  refine zr_iload_n (pc := 10) hV dX12_bitsOf_10 rfl rfl ?_
  refine zr_iconst (pc := 11) hV 1 dX12_bitsOf_11 rfl ?_
  refine zr_callVp (pc := 12) hV [ZI o, ZI 1] (st := []) (c_X12_fieldBits (σ := σ) hσ o 1 (by omega) (by omega)) dX12_bitsOf_12 mX12_184 rfl (by decide) (by decide) (Nat.le_of_ble_eq_true rfl) (Nat.le_refl _) (fun r12 hr12 pr12 => ?_)
  have t2 := zx_g2 hσ
  refine zr_istore (pc := 15) hV [some (ZR 0), some (ZI o), some (ZI 0), some (ZI r5), some (ZI r12), none, none, none, none, none] dX12_bitsOf_15 (by decide) rfl rfl ?_
  refine zr_aload_n (pc := 17) hV dX12_bitsOf_17 rfl rfl ?_
  refine zr_iload_n (pc := 18) hV dX12_bitsOf_18 rfl rfl ?_
  refine zr_iconst (pc := 19) hV 2 dX12_bitsOf_19 rfl ?_
  refine zr_callVp (pc := 20) hV [ZI o, ZI 2] (st := []) (c_X12_fieldBits (σ := σ) hσ o 2 (by omega) (by omega)) dX12_bitsOf_20 mX12_184 rfl (by decide) (by decide) (Nat.le_of_ble_eq_true rfl) (Nat.le_refl _) (fun r20 hr20 pr20 => ?_)
  have t3 := zx_g2 hσ
  refine zr_istore (pc := 23) hV [some (ZR 0), some (ZI o), some (ZI 0), some (ZI r5), some (ZI r12), some (ZI r20), none, none, none, none] dX12_bitsOf_23 (by decide) rfl rfl ?_
  refine zr_aload_n (pc := 25) hV dX12_bitsOf_25 rfl rfl ?_
  refine zr_iload_n (pc := 26) hV dX12_bitsOf_26 rfl rfl ?_
  refine zr_iconst (pc := 27) hV 3 dX12_bitsOf_27 rfl ?_
  refine zr_callVp (pc := 28) hV [ZI o, ZI 3] (st := []) (c_X12_fieldBits (σ := σ) hσ o 3 (by omega) (by omega)) dX12_bitsOf_28 mX12_184 rfl (by decide) (by decide) (Nat.le_of_ble_eq_true rfl) (Nat.le_refl _) (fun r28 hr28 pr28 => ?_)
  have t4 := zx_g2 hσ
  refine zr_istore (pc := 31) hV [some (ZR 0), some (ZI o), some (ZI 0), some (ZI r5), some (ZI r12), some (ZI r20), some (ZI r28), none, none, none] dX12_bitsOf_31 (by decide) rfl rfl ?_
  refine zr_iconst (pc := 33) hV 0 dX12_bitsOf_33 rfl ?_
  refine zr_istore (pc := 34) hV [some (ZR 0), some (ZI o), some (ZI 0), some (ZI r5), some (ZI r12), some (ZI r20), some (ZI r28), some (ZI 0), none, none] dX12_bitsOf_34 (by decide) rfl rfl ?_
  have L36 : ∀ (fuel : Nat) (x2_36 : Int) (x3_36 : Int) (x4_36 : Int) (x5_36 : Int) (x6_36 : Int) (x7_36 : Int), (0 ≤ x2_36 ∧ x2_36 ≤ 4095) → ((-12) ≤ x3_36 ∧ x3_36 ≤ 12) → ((-12) ≤ x4_36 ∧ x4_36 ≤ 12) → ((-12) ≤ x5_36 ∧ x5_36 ≤ 12) → ((-12) ≤ x6_36 ∧ x6_36 ≤ 12) → (0 ≤ x7_36 ∧ x7_36 ≤ 12) → (x2_36 < zx_p2 x7_36) → (x7_36 ≤ σ 0 2) → (0 ≤ x3_36 + x7_36) → (0 ≤ x4_36 + x7_36) → (0 ≤ x5_36 + x7_36) → (0 ≤ x6_36 + x7_36) → (x2_36 = zu_rbt σ o (σ 19) x7_36) → (x3_36 = zx_cnt σ o 0 (σ 0 2) - zx_cnt σ o 0 x7_36) → (x4_36 = zx_cnt σ o 1 (σ 0 2) - zx_cnt σ o 1 x7_36) → (x5_36 = zx_cnt σ o 2 (σ 0 2) - zx_cnt σ o 2 x7_36) → (x6_36 = zx_cnt σ o 3 (σ 0 2) - zx_cnt σ o 3 x7_36) → 12 - x7_36 < (fuel : Int) → V 36 [some (ZR 0), some (ZI o), some (ZI x2_36), some (ZI x3_36), some (ZI x4_36), some (ZI x5_36), some (ZI x6_36), some (ZI x7_36), none, none] [] 41 σ := by
    intro fuel
    induction fuel with
    | zero =>
      intro x2_36 x3_36 x4_36 x5_36 x6_36 x7_36 hx2_36 hx3_36 hx4_36 hx5_36 hx6_36 hx7_36 hi36_0 hi36_1 hi36_2 hi36_3 hi36_4 hi36_5 hi36_6 hi36_7 hi36_8 hi36_9 hi36_10 hm36
      exfalso; omega
    | succ fuel ih =>
      intro x2_36 x3_36 x4_36 x5_36 x6_36 x7_36 hx2_36 hx3_36 hx4_36 hx5_36 hx6_36 hx7_36 hi36_0 hi36_1 hi36_2 hi36_3 hi36_4 hi36_5 hi36_6 hi36_7 hi36_8 hi36_9 hi36_10 hm36
      have ih36 := ih
      show V 36 [some (ZR 0), some (ZI o), some (ZI x2_36), some (ZI x3_36), some (ZI x4_36), some (ZI x5_36), some (ZI x6_36), some (ZI x7_36), none, none] [] 41 σ
      refine zr_iload (pc := 36) hV dX12_bitsOf_36 rfl ?_
      refine zr_aload_n (pc := 38) hV dX12_bitsOf_38 rfl rfl ?_
      refine zr_getI (pc := 39) hV 2 dX12_bitsOf_39 fX12_16 rfl rfl rfl (by decide) ?_
      have t5 := zx_g2 hσ
      refine zr_icmp_ge (pc := 42) hV 172 dX12_bitsOf_42 (by decide) (by omega) (by omega) (fun c6 => ?_) (fun c6 => ?_)
      · show V 172 [some (ZR 0), some (ZI o), some (ZI x2_36), some (ZI x3_36), some (ZI x4_36), some (ZI x5_36), some (ZI x6_36), some (ZI x7_36), none, none] [] 41 σ
        refine zr_iload_n (pc := 172) hV dX12_bitsOf_172 rfl rfl ?_
        exact zr_iret (pc := 173) hV dX12_bitsOf_173 rfl rfl ⟨rfl, _, rfl, (by omega), ⟨by omega, by rw [show σ 0 2 = x7_36 by omega]; exact hi36_0, by omega, by rw [show σ 0 2 = x7_36 by omega]; exact hi36_6⟩⟩
      · show V 45 [some (ZR 0), some (ZI o), some (ZI x2_36), some (ZI x3_36), some (ZI x4_36), some (ZI x5_36), some (ZI x6_36), some (ZI x7_36), none, none] [] 41 σ
        have z1 := zx_p2_s x7_36 (by omega)
        have z2 := zx_p2_le (m := x7_36 + 1) (n := 12) (by omega)
        have z3 := zx_p2_12
        have zL1 : zt_L σ o x7_36 = σ 2 (12 * o + x7_36) := rfl
        have zc0 := zx_cnt_s σ o 0 x7_36 (by omega)
        have zc1 := zx_cnt_s σ o 1 x7_36 (by omega)
        have zc2 := zx_cnt_s σ o 2 x7_36 (by omega)
        have zc3 := zx_cnt_s σ o 3 x7_36 (by omega)
        refine zr_aload_n (pc := 45) hV dX12_bitsOf_45 rfl rfl ?_
        refine zr_getR (pc := 46) hV 5 2 dX12_bitsOf_46 fX12_23 rfl rfl rfl (by decide) (zx_g5 hσ) (by omega) ?_
        refine zr_bipush (pc := 49) hV 12 dX12_bitsOf_49 (by decide) ?_
        refine zr_iload_n (pc := 51) hV dX12_bitsOf_51 rfl rfl ?_
        refine zr_imul (pc := 52) hV dX12_bitsOf_52 ?_
        refine zr_iload (pc := 53) hV dX12_bitsOf_53 rfl ?_
        refine zr_iadd (pc := 55) hV dX12_bitsOf_55 ?_
        refine zr_iald (pc := 56) hV dX12_bitsOf_56 rfl (by decide) rfl (by omega) ?_
        have t7 := zx_ga2 hσ ((12 * o) + x7_36)
        refine zr_istore (pc := 57) hV [some (ZR 0), some (ZI o), some (ZI x2_36), some (ZI x3_36), some (ZI x4_36), some (ZI x5_36), some (ZI x6_36), some (ZI x7_36), some (ZI (σ 2 ((12 * o) + x7_36))), none] dX12_bitsOf_57 (by decide) rfl rfl ?_
        refine zr_iload (pc := 59) hV dX12_bitsOf_59 rfl ?_
        refine zr_istore (pc := 61) hV [some (ZR 0), some (ZI o), some (ZI x2_36), some (ZI x3_36), some (ZI x4_36), some (ZI x5_36), some (ZI x6_36), some (ZI x7_36), some (ZI (σ 2 ((12 * o) + x7_36))), some (ZI (σ 2 ((12 * o) + x7_36)))] dX12_bitsOf_61 (by decide) rfl rfl ?_
        refine zr_iload (pc := 63) hV dX12_bitsOf_63 rfl ?_
        refine zr_iconst (pc := 65) hV 2 dX12_bitsOf_65 rfl ?_
        refine zr_icmp_ne (pc := 66) hV 87 dX12_bitsOf_66 (by decide) (by omega) ⟨by decide, by decide⟩ (fun c8 => ?_) (fun c8 => ?_)
        · show V 87 [some (ZR 0), some (ZI o), some (ZI x2_36), some (ZI x3_36), some (ZI x4_36), some (ZI x5_36), some (ZI x6_36), some (ZI x7_36), some (ZI (σ 2 ((12 * o) + x7_36))), some (ZI (σ 2 ((12 * o) + x7_36)))] [] 41 σ
          refine zr_iload (pc := 87) hV dX12_bitsOf_87 rfl ?_
          refine zr_iconst (pc := 89) hV 3 dX12_bitsOf_89 rfl ?_
          refine zr_icmp_ne (pc := 90) hV 112 dX12_bitsOf_90 (by decide) (by omega) ⟨by decide, by decide⟩ (fun c9 => ?_) (fun c9 => ?_)
          · show V 112 [some (ZR 0), some (ZI o), some (ZI x2_36), some (ZI x3_36), some (ZI x4_36), some (ZI x5_36), some (ZI x6_36), some (ZI x7_36), some (ZI (σ 2 ((12 * o) + x7_36))), some (ZI (σ 2 ((12 * o) + x7_36)))] [] 41 σ
            refine zr_iload (pc := 112) hV dX12_bitsOf_112 rfl ?_
            refine zr_iconst (pc := 114) hV 4 dX12_bitsOf_114 rfl ?_
            refine zr_icmp_ne (pc := 115) hV 137 dX12_bitsOf_115 (by decide) (by omega) ⟨by decide, by decide⟩ (fun c10 => ?_) (fun c10 => ?_)
            · show V 137 [some (ZR 0), some (ZI o), some (ZI x2_36), some (ZI x3_36), some (ZI x4_36), some (ZI x5_36), some (ZI x6_36), some (ZI x7_36), some (ZI (σ 2 ((12 * o) + x7_36))), some (ZI (σ 2 ((12 * o) + x7_36)))] [] 41 σ
              refine zr_iload (pc := 137) hV dX12_bitsOf_137 rfl ?_
              refine zr_iconst (pc := 139) hV 5 dX12_bitsOf_139 rfl ?_
              refine zr_icmp_ne (pc := 140) hV 159 dX12_bitsOf_140 (by decide) (by omega) ⟨by decide, by decide⟩ (fun c11 => ?_) (fun c11 => ?_)
              · show V 159 [some (ZR 0), some (ZI o), some (ZI x2_36), some (ZI x3_36), some (ZI x4_36), some (ZI x5_36), some (ZI x6_36), some (ZI x7_36), some (ZI (σ 2 ((12 * o) + x7_36))), some (ZI (σ 2 ((12 * o) + x7_36)))] [] 41 σ
                refine zr_iconst (pc := 159) hV 2 dX12_bitsOf_159 rfl ?_
                refine zr_iload_n (pc := 160) hV dX12_bitsOf_160 rfl rfl ?_
                refine zr_imul (pc := 161) hV dX12_bitsOf_161 ?_
                refine zr_iload (pc := 162) hV dX12_bitsOf_162 rfl ?_
                refine zr_iadd (pc := 164) hV dX12_bitsOf_164 ?_
                refine zr_istore_n (pc := 165) hV [some (ZR 0), some (ZI o), some (ZI ((2 * x2_36) + (σ 2 ((12 * o) + x7_36)))), some (ZI x3_36), some (ZI x4_36), some (ZI x5_36), some (ZI x6_36), some (ZI x7_36), some (ZI (σ 2 ((12 * o) + x7_36))), some (ZI (σ 2 ((12 * o) + x7_36)))] dX12_bitsOf_165 rfl (by decide) rfl rfl ?_
                refine zr_iinc (pc := 166) hV [some (ZR 0), some (ZI o), some (ZI ((2 * x2_36) + (σ 2 ((12 * o) + x7_36)))), some (ZI x3_36), some (ZI x4_36), some (ZI x5_36), some (ZI x6_36), some (ZI (x7_36 + 1)), some (ZI (σ 2 ((12 * o) + x7_36))), some (ZI (σ 2 ((12 * o) + x7_36)))] (x7_36 + 1) dX12_bitsOf_166 rfl rfl (by decide) rfl rfl ?_
                refine zr_goto (pc := 169) hV 36 dX12_bitsOf_169 (by decide) ?_
                have t12 := zx_g2 hσ
                have t13 := zx_g2 hσ
                have t14 := zx_g2 hσ
                have t15 := zx_g2 hσ
                have t16 := zx_g2 hσ
                refine zr_sub (pc := 36) hV [some (ZR 0), some (ZI o), some (ZI ((2 * x2_36) + (σ 2 ((12 * o) + x7_36)))), some (ZI x3_36), some (ZI x4_36), some (ZI x5_36), some (ZI x6_36), some (ZI (x7_36 + 1)), none, none] (⟨rfl, rfl, rfl, rfl, rfl, rfl, rfl, rfl, trivial⟩) ?_
                exact ih36 ((2 * x2_36) + (σ 2 ((12 * o) + x7_36))) x3_36 x4_36 x5_36 x6_36 (x7_36 + 1) (by omega) (by omega) (by omega) (by omega) (by omega) (by omega) (by omega) (by omega) (by omega) (by omega) (by omega) (by omega) (by rw [zu_rbt_s (by omega) ((zu_rbi_b (by omega)).trans zL1) (by omega), ← hi36_6]) (by omega) (by omega) (by omega) (by omega) (by omega)
              · show V 143 [some (ZR 0), some (ZI o), some (ZI x2_36), some (ZI x3_36), some (ZI x4_36), some (ZI x5_36), some (ZI x6_36), some (ZI x7_36), some (ZI (σ 2 ((12 * o) + x7_36))), some (ZI (σ 2 ((12 * o) + x7_36)))] [] 41 σ
                refine zr_iinc (pc := 143) hV [some (ZR 0), some (ZI o), some (ZI x2_36), some (ZI x3_36), some (ZI x4_36), some (ZI x5_36), some (ZI (x6_36 + (-1))), some (ZI x7_36), some (ZI (σ 2 ((12 * o) + x7_36))), some (ZI (σ 2 ((12 * o) + x7_36)))] (x6_36 + (-1)) dX12_bitsOf_143 rfl rfl (by decide) rfl rfl ?_
                refine zr_aload_n (pc := 146) hV dX12_bitsOf_146 rfl rfl ?_
                refine zr_getR (pc := 147) hV 32 19 dX12_bitsOf_147 fX12_78 rfl rfl rfl (by decide) (zx_g32 hσ) (by omega) ?_
                refine zr_iconst (pc := 150) hV 3 dX12_bitsOf_150 rfl ?_
                refine zr_iald (pc := 151) hV dX12_bitsOf_151 rfl (by decide) rfl (by omega) ?_
                have t17 := zx_ga19 hσ 3
                refine zr_iload (pc := 152) hV dX12_bitsOf_152 rfl ?_
                refine zr_ishr (pc := 154) hV dX12_bitsOf_154 ?_
                have t18 := zq_shr_in (σ 19 3) (x6_36 + (-1))
                refine zr_iconst (pc := 155) hV 1 dX12_bitsOf_155 rfl ?_
                refine zr_iand (pc := 156) hV dX12_bitsOf_156 ?_
                have t19 := zq_and_mask (zq_shr (σ 19 3) (x6_36 + (-1))) 1 1 2 (by decide) (by decide) (by decide)
                refine zr_istore (pc := 157) hV [some (ZR 0), some (ZI o), some (ZI x2_36), some (ZI x3_36), some (ZI x4_36), some (ZI x5_36), some (ZI (x6_36 + (-1))), some (ZI x7_36), some (ZI (σ 2 ((12 * o) + x7_36))), some (ZI (zq_and (zq_shr (σ 19 3) (x6_36 + (-1))) 1))] dX12_bitsOf_157 (by decide) rfl rfl ?_
                show V 159 [some (ZR 0), some (ZI o), some (ZI x2_36), some (ZI x3_36), some (ZI x4_36), some (ZI x5_36), some (ZI (x6_36 + (-1))), some (ZI x7_36), some (ZI (σ 2 ((12 * o) + x7_36))), some (ZI (zq_and (zq_shr (σ 19 3) (x6_36 + (-1))) 1))] [] 41 σ
                refine zr_iconst (pc := 159) hV 2 dX12_bitsOf_159 rfl ?_
                refine zr_iload_n (pc := 160) hV dX12_bitsOf_160 rfl rfl ?_
                refine zr_imul (pc := 161) hV dX12_bitsOf_161 ?_
                refine zr_iload (pc := 162) hV dX12_bitsOf_162 rfl ?_
                refine zr_iadd (pc := 164) hV dX12_bitsOf_164 ?_
                refine zr_istore_n (pc := 165) hV [some (ZR 0), some (ZI o), some (ZI ((2 * x2_36) + (zq_and (zq_shr (σ 19 3) (x6_36 + (-1))) 1))), some (ZI x3_36), some (ZI x4_36), some (ZI x5_36), some (ZI (x6_36 + (-1))), some (ZI x7_36), some (ZI (σ 2 ((12 * o) + x7_36))), some (ZI (zq_and (zq_shr (σ 19 3) (x6_36 + (-1))) 1))] dX12_bitsOf_165 rfl (by decide) rfl rfl ?_
                refine zr_iinc (pc := 166) hV [some (ZR 0), some (ZI o), some (ZI ((2 * x2_36) + (zq_and (zq_shr (σ 19 3) (x6_36 + (-1))) 1))), some (ZI x3_36), some (ZI x4_36), some (ZI x5_36), some (ZI (x6_36 + (-1))), some (ZI (x7_36 + 1)), some (ZI (σ 2 ((12 * o) + x7_36))), some (ZI (zq_and (zq_shr (σ 19 3) (x6_36 + (-1))) 1))] (x7_36 + 1) dX12_bitsOf_166 rfl rfl (by decide) rfl rfl ?_
                refine zr_goto (pc := 169) hV 36 dX12_bitsOf_169 (by decide) ?_
                have t20 := zx_g2 hσ
                have t21 := zx_g2 hσ
                have t22 := zx_g2 hσ
                have t23 := zx_g2 hσ
                have t24 := zx_g2 hσ
                refine zr_sub (pc := 36) hV [some (ZR 0), some (ZI o), some (ZI ((2 * x2_36) + (zq_and (zq_shr (σ 19 3) (x6_36 + (-1))) 1))), some (ZI x3_36), some (ZI x4_36), some (ZI x5_36), some (ZI (x6_36 + (-1))), some (ZI (x7_36 + 1)), none, none] (⟨rfl, rfl, rfl, rfl, rfl, rfl, rfl, rfl, trivial⟩) ?_
                exact ih36 ((2 * x2_36) + (zq_and (zq_shr (σ 19 3) (x6_36 + (-1))) 1)) x3_36 x4_36 x5_36 (x6_36 + (-1)) (x7_36 + 1) (by omega) (by omega) (by omega) (by omega) (by omega) (by omega) (by omega) (by omega) (by omega) (by omega) (by omega) (by omega) (by rw [zu_rbt_s (by omega) (zu_rbi_5 (c := x6_36 + (-1)) (by omega) (by omega)) (by omega), ← hi36_6]) (by omega) (by omega) (by omega) (by omega) (by omega)
            · show V 118 [some (ZR 0), some (ZI o), some (ZI x2_36), some (ZI x3_36), some (ZI x4_36), some (ZI x5_36), some (ZI x6_36), some (ZI x7_36), some (ZI (σ 2 ((12 * o) + x7_36))), some (ZI (σ 2 ((12 * o) + x7_36)))] [] 41 σ
              refine zr_iinc (pc := 118) hV [some (ZR 0), some (ZI o), some (ZI x2_36), some (ZI x3_36), some (ZI x4_36), some (ZI (x5_36 + (-1))), some (ZI x6_36), some (ZI x7_36), some (ZI (σ 2 ((12 * o) + x7_36))), some (ZI (σ 2 ((12 * o) + x7_36)))] (x5_36 + (-1)) dX12_bitsOf_118 rfl rfl (by decide) rfl rfl ?_
              refine zr_aload_n (pc := 121) hV dX12_bitsOf_121 rfl rfl ?_
              refine zr_getR (pc := 122) hV 32 19 dX12_bitsOf_122 fX12_78 rfl rfl rfl (by decide) (zx_g32 hσ) (by omega) ?_
              refine zr_iconst (pc := 125) hV 2 dX12_bitsOf_125 rfl ?_
              refine zr_iald (pc := 126) hV dX12_bitsOf_126 rfl (by decide) rfl (by omega) ?_
              have t25 := zx_ga19 hσ 2
              refine zr_iload (pc := 127) hV dX12_bitsOf_127 rfl ?_
              refine zr_ishr (pc := 129) hV dX12_bitsOf_129 ?_
              have t26 := zq_shr_in (σ 19 2) (x5_36 + (-1))
              refine zr_iconst (pc := 130) hV 1 dX12_bitsOf_130 rfl ?_
              refine zr_iand (pc := 131) hV dX12_bitsOf_131 ?_
              have t27 := zq_and_mask (zq_shr (σ 19 2) (x5_36 + (-1))) 1 1 2 (by decide) (by decide) (by decide)
              refine zr_istore (pc := 132) hV [some (ZR 0), some (ZI o), some (ZI x2_36), some (ZI x3_36), some (ZI x4_36), some (ZI (x5_36 + (-1))), some (ZI x6_36), some (ZI x7_36), some (ZI (σ 2 ((12 * o) + x7_36))), some (ZI (zq_and (zq_shr (σ 19 2) (x5_36 + (-1))) 1))] dX12_bitsOf_132 (by decide) rfl rfl ?_
              refine zr_goto (pc := 134) hV 159 dX12_bitsOf_134 (by decide) ?_
              show V 159 [some (ZR 0), some (ZI o), some (ZI x2_36), some (ZI x3_36), some (ZI x4_36), some (ZI (x5_36 + (-1))), some (ZI x6_36), some (ZI x7_36), some (ZI (σ 2 ((12 * o) + x7_36))), some (ZI (zq_and (zq_shr (σ 19 2) (x5_36 + (-1))) 1))] [] 41 σ
              refine zr_iconst (pc := 159) hV 2 dX12_bitsOf_159 rfl ?_
              refine zr_iload_n (pc := 160) hV dX12_bitsOf_160 rfl rfl ?_
              refine zr_imul (pc := 161) hV dX12_bitsOf_161 ?_
              refine zr_iload (pc := 162) hV dX12_bitsOf_162 rfl ?_
              refine zr_iadd (pc := 164) hV dX12_bitsOf_164 ?_
              refine zr_istore_n (pc := 165) hV [some (ZR 0), some (ZI o), some (ZI ((2 * x2_36) + (zq_and (zq_shr (σ 19 2) (x5_36 + (-1))) 1))), some (ZI x3_36), some (ZI x4_36), some (ZI (x5_36 + (-1))), some (ZI x6_36), some (ZI x7_36), some (ZI (σ 2 ((12 * o) + x7_36))), some (ZI (zq_and (zq_shr (σ 19 2) (x5_36 + (-1))) 1))] dX12_bitsOf_165 rfl (by decide) rfl rfl ?_
              refine zr_iinc (pc := 166) hV [some (ZR 0), some (ZI o), some (ZI ((2 * x2_36) + (zq_and (zq_shr (σ 19 2) (x5_36 + (-1))) 1))), some (ZI x3_36), some (ZI x4_36), some (ZI (x5_36 + (-1))), some (ZI x6_36), some (ZI (x7_36 + 1)), some (ZI (σ 2 ((12 * o) + x7_36))), some (ZI (zq_and (zq_shr (σ 19 2) (x5_36 + (-1))) 1))] (x7_36 + 1) dX12_bitsOf_166 rfl rfl (by decide) rfl rfl ?_
              refine zr_goto (pc := 169) hV 36 dX12_bitsOf_169 (by decide) ?_
              have t28 := zx_g2 hσ
              have t29 := zx_g2 hσ
              have t30 := zx_g2 hσ
              have t31 := zx_g2 hσ
              have t32 := zx_g2 hσ
              refine zr_sub (pc := 36) hV [some (ZR 0), some (ZI o), some (ZI ((2 * x2_36) + (zq_and (zq_shr (σ 19 2) (x5_36 + (-1))) 1))), some (ZI x3_36), some (ZI x4_36), some (ZI (x5_36 + (-1))), some (ZI x6_36), some (ZI (x7_36 + 1)), none, none] (⟨rfl, rfl, rfl, rfl, rfl, rfl, rfl, rfl, trivial⟩) ?_
              exact ih36 ((2 * x2_36) + (zq_and (zq_shr (σ 19 2) (x5_36 + (-1))) 1)) x3_36 x4_36 (x5_36 + (-1)) x6_36 (x7_36 + 1) (by omega) (by omega) (by omega) (by omega) (by omega) (by omega) (by omega) (by omega) (by omega) (by omega) (by omega) (by omega) (by rw [zu_rbt_s (by omega) (zu_rbi_4 (c := x5_36 + (-1)) (by omega) (by omega)) (by omega), ← hi36_6]) (by omega) (by omega) (by omega) (by omega) (by omega)
          · show V 93 [some (ZR 0), some (ZI o), some (ZI x2_36), some (ZI x3_36), some (ZI x4_36), some (ZI x5_36), some (ZI x6_36), some (ZI x7_36), some (ZI (σ 2 ((12 * o) + x7_36))), some (ZI (σ 2 ((12 * o) + x7_36)))] [] 41 σ
            refine zr_iinc (pc := 93) hV [some (ZR 0), some (ZI o), some (ZI x2_36), some (ZI x3_36), some (ZI (x4_36 + (-1))), some (ZI x5_36), some (ZI x6_36), some (ZI x7_36), some (ZI (σ 2 ((12 * o) + x7_36))), some (ZI (σ 2 ((12 * o) + x7_36)))] (x4_36 + (-1)) dX12_bitsOf_93 rfl rfl (by decide) rfl rfl ?_
            refine zr_aload_n (pc := 96) hV dX12_bitsOf_96 rfl rfl ?_
            refine zr_getR (pc := 97) hV 32 19 dX12_bitsOf_97 fX12_78 rfl rfl rfl (by decide) (zx_g32 hσ) (by omega) ?_
            refine zr_iconst (pc := 100) hV 1 dX12_bitsOf_100 rfl ?_
            refine zr_iald (pc := 101) hV dX12_bitsOf_101 rfl (by decide) rfl (by omega) ?_
            have t33 := zx_ga19 hσ 1
            refine zr_iload (pc := 102) hV dX12_bitsOf_102 rfl ?_
            refine zr_ishr (pc := 104) hV dX12_bitsOf_104 ?_
            have t34 := zq_shr_in (σ 19 1) (x4_36 + (-1))
            refine zr_iconst (pc := 105) hV 1 dX12_bitsOf_105 rfl ?_
            refine zr_iand (pc := 106) hV dX12_bitsOf_106 ?_
            have t35 := zq_and_mask (zq_shr (σ 19 1) (x4_36 + (-1))) 1 1 2 (by decide) (by decide) (by decide)
            refine zr_istore (pc := 107) hV [some (ZR 0), some (ZI o), some (ZI x2_36), some (ZI x3_36), some (ZI (x4_36 + (-1))), some (ZI x5_36), some (ZI x6_36), some (ZI x7_36), some (ZI (σ 2 ((12 * o) + x7_36))), some (ZI (zq_and (zq_shr (σ 19 1) (x4_36 + (-1))) 1))] dX12_bitsOf_107 (by decide) rfl rfl ?_
            refine zr_goto (pc := 109) hV 159 dX12_bitsOf_109 (by decide) ?_
            show V 159 [some (ZR 0), some (ZI o), some (ZI x2_36), some (ZI x3_36), some (ZI (x4_36 + (-1))), some (ZI x5_36), some (ZI x6_36), some (ZI x7_36), some (ZI (σ 2 ((12 * o) + x7_36))), some (ZI (zq_and (zq_shr (σ 19 1) (x4_36 + (-1))) 1))] [] 41 σ
            refine zr_iconst (pc := 159) hV 2 dX12_bitsOf_159 rfl ?_
            refine zr_iload_n (pc := 160) hV dX12_bitsOf_160 rfl rfl ?_
            refine zr_imul (pc := 161) hV dX12_bitsOf_161 ?_
            refine zr_iload (pc := 162) hV dX12_bitsOf_162 rfl ?_
            refine zr_iadd (pc := 164) hV dX12_bitsOf_164 ?_
            refine zr_istore_n (pc := 165) hV [some (ZR 0), some (ZI o), some (ZI ((2 * x2_36) + (zq_and (zq_shr (σ 19 1) (x4_36 + (-1))) 1))), some (ZI x3_36), some (ZI (x4_36 + (-1))), some (ZI x5_36), some (ZI x6_36), some (ZI x7_36), some (ZI (σ 2 ((12 * o) + x7_36))), some (ZI (zq_and (zq_shr (σ 19 1) (x4_36 + (-1))) 1))] dX12_bitsOf_165 rfl (by decide) rfl rfl ?_
            refine zr_iinc (pc := 166) hV [some (ZR 0), some (ZI o), some (ZI ((2 * x2_36) + (zq_and (zq_shr (σ 19 1) (x4_36 + (-1))) 1))), some (ZI x3_36), some (ZI (x4_36 + (-1))), some (ZI x5_36), some (ZI x6_36), some (ZI (x7_36 + 1)), some (ZI (σ 2 ((12 * o) + x7_36))), some (ZI (zq_and (zq_shr (σ 19 1) (x4_36 + (-1))) 1))] (x7_36 + 1) dX12_bitsOf_166 rfl rfl (by decide) rfl rfl ?_
            refine zr_goto (pc := 169) hV 36 dX12_bitsOf_169 (by decide) ?_
            have t36 := zx_g2 hσ
            have t37 := zx_g2 hσ
            have t38 := zx_g2 hσ
            have t39 := zx_g2 hσ
            have t40 := zx_g2 hσ
            refine zr_sub (pc := 36) hV [some (ZR 0), some (ZI o), some (ZI ((2 * x2_36) + (zq_and (zq_shr (σ 19 1) (x4_36 + (-1))) 1))), some (ZI x3_36), some (ZI (x4_36 + (-1))), some (ZI x5_36), some (ZI x6_36), some (ZI (x7_36 + 1)), none, none] (⟨rfl, rfl, rfl, rfl, rfl, rfl, rfl, rfl, trivial⟩) ?_
            exact ih36 ((2 * x2_36) + (zq_and (zq_shr (σ 19 1) (x4_36 + (-1))) 1)) x3_36 (x4_36 + (-1)) x5_36 x6_36 (x7_36 + 1) (by omega) (by omega) (by omega) (by omega) (by omega) (by omega) (by omega) (by omega) (by omega) (by omega) (by omega) (by omega) (by rw [zu_rbt_s (by omega) (zu_rbi_3 (c := x4_36 + (-1)) (by omega) (by omega)) (by omega), ← hi36_6]) (by omega) (by omega) (by omega) (by omega) (by omega)
        · show V 69 [some (ZR 0), some (ZI o), some (ZI x2_36), some (ZI x3_36), some (ZI x4_36), some (ZI x5_36), some (ZI x6_36), some (ZI x7_36), some (ZI (σ 2 ((12 * o) + x7_36))), some (ZI (σ 2 ((12 * o) + x7_36)))] [] 41 σ
          refine zr_iinc (pc := 69) hV [some (ZR 0), some (ZI o), some (ZI x2_36), some (ZI (x3_36 + (-1))), some (ZI x4_36), some (ZI x5_36), some (ZI x6_36), some (ZI x7_36), some (ZI (σ 2 ((12 * o) + x7_36))), some (ZI (σ 2 ((12 * o) + x7_36)))] (x3_36 + (-1)) dX12_bitsOf_69 rfl rfl (by decide) rfl rfl ?_
          refine zr_aload_n (pc := 72) hV dX12_bitsOf_72 rfl rfl ?_
          refine zr_getR (pc := 73) hV 32 19 dX12_bitsOf_73 fX12_78 rfl rfl rfl (by decide) (zx_g32 hσ) (by omega) ?_
          refine zr_iconst (pc := 76) hV 0 dX12_bitsOf_76 rfl ?_
          refine zr_iald (pc := 77) hV dX12_bitsOf_77 rfl (by decide) rfl (by omega) ?_
          have t41 := zx_ga19 hσ 0
          refine zr_iload_n (pc := 78) hV dX12_bitsOf_78 rfl rfl ?_
          refine zr_ishr (pc := 79) hV dX12_bitsOf_79 ?_
          have t42 := zq_shr_in (σ 19 0) (x3_36 + (-1))
          refine zr_iconst (pc := 80) hV 1 dX12_bitsOf_80 rfl ?_
          refine zr_iand (pc := 81) hV dX12_bitsOf_81 ?_
          have t43 := zq_and_mask (zq_shr (σ 19 0) (x3_36 + (-1))) 1 1 2 (by decide) (by decide) (by decide)
          refine zr_istore (pc := 82) hV [some (ZR 0), some (ZI o), some (ZI x2_36), some (ZI (x3_36 + (-1))), some (ZI x4_36), some (ZI x5_36), some (ZI x6_36), some (ZI x7_36), some (ZI (σ 2 ((12 * o) + x7_36))), some (ZI (zq_and (zq_shr (σ 19 0) (x3_36 + (-1))) 1))] dX12_bitsOf_82 (by decide) rfl rfl ?_
          refine zr_goto (pc := 84) hV 159 dX12_bitsOf_84 (by decide) ?_
          show V 159 [some (ZR 0), some (ZI o), some (ZI x2_36), some (ZI (x3_36 + (-1))), some (ZI x4_36), some (ZI x5_36), some (ZI x6_36), some (ZI x7_36), some (ZI (σ 2 ((12 * o) + x7_36))), some (ZI (zq_and (zq_shr (σ 19 0) (x3_36 + (-1))) 1))] [] 41 σ
          refine zr_iconst (pc := 159) hV 2 dX12_bitsOf_159 rfl ?_
          refine zr_iload_n (pc := 160) hV dX12_bitsOf_160 rfl rfl ?_
          refine zr_imul (pc := 161) hV dX12_bitsOf_161 ?_
          refine zr_iload (pc := 162) hV dX12_bitsOf_162 rfl ?_
          refine zr_iadd (pc := 164) hV dX12_bitsOf_164 ?_
          refine zr_istore_n (pc := 165) hV [some (ZR 0), some (ZI o), some (ZI ((2 * x2_36) + (zq_and (zq_shr (σ 19 0) (x3_36 + (-1))) 1))), some (ZI (x3_36 + (-1))), some (ZI x4_36), some (ZI x5_36), some (ZI x6_36), some (ZI x7_36), some (ZI (σ 2 ((12 * o) + x7_36))), some (ZI (zq_and (zq_shr (σ 19 0) (x3_36 + (-1))) 1))] dX12_bitsOf_165 rfl (by decide) rfl rfl ?_
          refine zr_iinc (pc := 166) hV [some (ZR 0), some (ZI o), some (ZI ((2 * x2_36) + (zq_and (zq_shr (σ 19 0) (x3_36 + (-1))) 1))), some (ZI (x3_36 + (-1))), some (ZI x4_36), some (ZI x5_36), some (ZI x6_36), some (ZI (x7_36 + 1)), some (ZI (σ 2 ((12 * o) + x7_36))), some (ZI (zq_and (zq_shr (σ 19 0) (x3_36 + (-1))) 1))] (x7_36 + 1) dX12_bitsOf_166 rfl rfl (by decide) rfl rfl ?_
          refine zr_goto (pc := 169) hV 36 dX12_bitsOf_169 (by decide) ?_
          have t44 := zx_g2 hσ
          have t45 := zx_g2 hσ
          have t46 := zx_g2 hσ
          have t47 := zx_g2 hσ
          have t48 := zx_g2 hσ
          refine zr_sub (pc := 36) hV [some (ZR 0), some (ZI o), some (ZI ((2 * x2_36) + (zq_and (zq_shr (σ 19 0) (x3_36 + (-1))) 1))), some (ZI (x3_36 + (-1))), some (ZI x4_36), some (ZI x5_36), some (ZI x6_36), some (ZI (x7_36 + 1)), none, none] (⟨rfl, rfl, rfl, rfl, rfl, rfl, rfl, rfl, trivial⟩) ?_
          exact ih36 ((2 * x2_36) + (zq_and (zq_shr (σ 19 0) (x3_36 + (-1))) 1)) (x3_36 + (-1)) x4_36 x5_36 x6_36 (x7_36 + 1) (by omega) (by omega) (by omega) (by omega) (by omega) (by omega) (by omega) (by omega) (by omega) (by omega) (by omega) (by omega) (by rw [zu_rbt_s (by omega) (zu_rbi_2 (c := x3_36 + (-1)) (by omega) (by omega)) (by omega), ← hi36_6]) (by omega) (by omega) (by omega) (by omega) (by omega)
  have t49 := zx_g2 hσ
  have t50 := zx_g2 hσ
  have t51 := zx_g2 hσ
  have t52 := zx_g2 hσ
  have t53 := zx_g2 hσ
  exact L36 (12 - (0 : Int) + 1 : Int).toNat 0 r5 r12 r20 r28 0 (by omega) (by omega) (by omega) (by omega) (by omega) (by omega) (by omega) (by omega) (by omega) (by omega) (by omega) (by omega) rfl (by omega) (by omega) (by omega) (by omega) (by omega)
set_option maxHeartbeats 800000 in
theorem c_X12_readLine2 {σ : zq_S} (hσ : zx_T σ) (q0 : ∀ i, 0 ≤ i → i < σ 0 14 → 0 ≤ σ 10 i) (q1 : ∀ i, 0 ≤ i → i < σ 0 3 → 1 ≤ σ 1 i ∧ σ 1 i ≤ 19682) : zq_C zx_w yX12_readLine cX12_readLine 5 (some .int) 2 49 41 41 [ZR 0] σ (zq_pi (fun r τ => zx_T τ ∧ (∀ a i : Int, (¬ (a = 0 ∧ i = 15) ∧ ¬ (a = 0 ∧ i = 16) ∧ a ≠ 19) → τ a i = σ a i) ∧ (-1 ≤ r ∧ r ≤ 19 ∧ (0 ≤ r → r < σ 0 3)) ∧ zq_hid (((∀ i, 0 ≤ i → i < σ 0 3 → σ 1 i ≠ (zt_nb (σ 10) (zt_z0 (σ 10) (σ 0 14)) (zt_n0 (σ 10) (σ 0 14)))) ∧ r = -1 ∧ τ 0 15 = (zt_z0 (σ 10) (σ 0 14))) ∨ (∃ o, 0 ≤ o ∧ o < σ 0 3 ∧ σ 1 o = (zt_nb (σ 10) (zt_z0 (σ 10) (σ 0 14)) (zt_n0 (σ 10) (σ 0 14))) ∧ (∀ i, 0 ≤ i → i < o → σ 1 i ≠ (zt_nb (σ 10) (zt_z0 (σ 10) (σ 0 14)) (zt_n0 (σ 10) (σ 0 14)))) ∧ ((zu_rln σ o (σ 10) (σ 0 14) 4).2 = false → r = -1 ∧ τ 0 15 = (zu_rln σ o (σ 10) (σ 0 14) 4).1) ∧ ((zu_rln σ o (σ 10) (σ 0 14) 4).2 = true → (zt_nx (σ 10) (σ 0 14) (zu_rln σ o (σ 10) (σ 0 14) 4).1 ≠ -1 → r = -1 ∧ τ 0 15 = zt_sk (σ 10) (σ 0 14) (zu_rln σ o (σ 10) (σ 0 14) 4).1) ∧ (zt_nx (σ 10) (σ 0 14) (zu_rln σ o (σ 10) (σ 0 14) 4).1 = -1 → r = o ∧ (∀ f, 0 ≤ f → f < 4 → zu_rH σ o f = true → τ 19 f = zu_rlv σ o (σ 10) (σ 0 14) f))))))) := by
  refine zq_C_of (by decide) (Nat.le_refl _) (Nat.le_of_ble_eq_true rfl) [some (ZR 0), none, none, none, none] rfl (fun V hV => ?_)
  have z14 := zx_g14 hσ
  show V 0 [some (ZR 0), none, none, none, none] [] 41 σ
  refine zr_aload_n (pc := 0) hV dX12_readLine_0 rfl rfl ?_
  refine zr_iconst (pc := 1) hV 0 dX12_readLine_1 rfl ?_
  refine zr_putI (pc := 2) hV 15 dX12_readLine_2 fX12_200 rfl rfl rfl rfl (by decide) (fun σ2 eσ2 => ?_)
  have hσ2 : zx_T σ2 := zx_u15 eσ2 hσ (by omega)
  have hFσ2 : ∀ a i : Int, (¬ (a = 0 ∧ i = 15) ∧ ¬ (a = 0 ∧ i = 16) ∧ a ≠ 19) → σ2 a i = σ a i := fun a i h => by rw [eσ2, zq_up_ne h.1]
  refine zr_aload_n (pc := 5) hV dX12_readLine_5 rfl rfl ?_
  refine zr_callVi (pc := 6) hV [] (st := []) (c_X12_readName2 (σ := σ2) hσ2 ) dX12_readLine_6 mX12_218 rfl (by decide) (by decide) (Nat.le_of_ble_eq_true rfl) (Nat.le_refl _) (fun r6 σ6 hr6 pσ6 => ?_)
  obtain ⟨hσ6, hfσ6, pσ6⟩ := pσ6
  have hFσ6 : ∀ a i : Int, (¬ (a = 0 ∧ i = 15) ∧ ¬ (a = 0 ∧ i = 16) ∧ a ≠ 19) → σ6 a i = σ a i := fun a i h => (hfσ6 a i ⟨h.1, h.2.1⟩).trans (hFσ2 a i h)
  have t1 := zx_g14 hσ2
  have t2 : σ2 0 14 = σ 0 14 := by rw [eσ2]; exact zq_up_ne (by omega)
  have t3 := zx_g15 hσ2
  have t4 : σ2 0 15 = 0 := by rw [eσ2]; exact zq_up_same _ _ _ _
  have Tσ2 : σ2 10 = σ 10 := funext (fun i => hFσ2 10 i (by omega))
  have Nσ2 : σ2 0 14 = σ 0 14 := hFσ2 0 14 (by omega)
  rw [Tσ2, Nσ2] at pσ6
  have t5 := zx_g15 hσ6
  have t6 := zx_g16 hσ6
  have z2 : σ2 0 15 = 0 := by rw [eσ2, zq_up_same]
  rw [z2] at pσ6
  have r6v : r6 = (zt_nb (σ 10) (zt_z0 (σ 10) (σ 0 14)) (zt_n0 (σ 10) (σ 0 14))) := pσ6.2.2.1
  have a6 : σ6 0 15 = (zt_p0 (σ 10) (σ 0 14)) := pσ6.2.1
  have d3 : σ6 0 3 = σ 0 3 := hFσ6 0 3 (by omega)
  have d1 : ∀ i, σ6 1 i = σ 1 i := fun i => hFσ6 1 i (by omega)
  refine zr_istore_n (pc := 9) hV [some (ZR 0), some (ZI r6), none, none, none] dX12_readLine_9 rfl (by decide) rfl rfl ?_
  refine zr_iload_n (pc := 10) hV dX12_readLine_10 rfl rfl ?_
  refine zr_if_ne (pc := 11) hV 18 dX12_readLine_11 (by decide) (by omega) (fun c7 => ?_) (fun c7 => ?_)
  · show V 18 [some (ZR 0), some (ZI r6), none, none, none] [] 41 σ6
    refine zr_aload_n (pc := 18) hV dX12_readLine_18 rfl rfl ?_
    refine zr_iload_n (pc := 19) hV dX12_readLine_19 rfl rfl ?_
    refine zr_callVp (pc := 20) hV [ZI r6] (st := []) (c_X12_named3 (σ := σ6) hσ6 r6 (by omega)) dX12_readLine_20 mX12_221 rfl (by decide) (by decide) (Nat.le_of_ble_eq_true rfl) (Nat.le_refl _) (fun r20 hr20 pr20 => ?_)
    have t8 := zx_g3 hσ6
    have t9 : σ6 0 3 = σ2 0 3 := hfσ6 _ _ (by omega)
    have t10 : σ2 0 3 = σ 0 3 := by rw [eσ2]; exact zq_up_ne (by omega)
    show V 23 [some (ZR 0), some (ZI r6), none, none, none] [ZI r20] 41 σ6
    refine zr_istore_n (pc := 23) hV [some (ZR 0), some (ZI r6), some (ZI r20), none, none] dX12_readLine_23 rfl (by decide) rfl rfl ?_
    refine zr_iload_n (pc := 24) hV dX12_readLine_24 rfl rfl ?_
    refine zr_if_ge (pc := 25) hV 38 dX12_readLine_25 (by decide) (by omega) (fun c11 => ?_) (fun c11 => ?_)
    · show V 38 [some (ZR 0), some (ZI r6), some (ZI r20), none, none] [] 41 σ6
      have nm20 : σ 1 r20 = (zt_nb (σ 10) (zt_z0 (σ 10) (σ 0 14)) (zt_n0 (σ 10) (σ 0 14))) := by rw [← d1 r20, ← r6v]; exact (pr20.2.2.2.1 (by omega)).1
      have lst20 : zq_hid (∀ i, 0 ≤ i → i < r20 → σ 1 i ≠ (zt_nb (σ 10) (zt_z0 (σ 10) (σ 0 14)) (zt_n0 (σ 10) (σ 0 14)))) := fun i h0 h1 => by rw [← d1 i, ← r6v]; exact (pr20.2.2.2.1 (by omega)).2 i h0 h1
      refine zr_iconst (pc := 38) hV 1 dX12_readLine_38 rfl ?_
      refine zr_istore_n (pc := 39) hV [some (ZR 0), some (ZI r6), some (ZI r20), some (ZI 1), none] dX12_readLine_39 rfl (by decide) rfl rfl ?_
      refine zr_iconst (pc := 40) hV 0 dX12_readLine_40 rfl ?_
      refine zr_istore (pc := 41) hV [some (ZR 0), some (ZI r6), some (ZI r20), some (ZI 1), some (ZI 0)] dX12_readLine_41 (by decide) rfl rfl ?_
      have L43 : ∀ (fuel : Nat) (x3_43 : Int) (x4_43 : Int) (σ_43 : zq_S), (0 ≤ x3_43 ∧ x3_43 ≤ 1) → (0 ≤ x4_43 ∧ x4_43 ≤ 4) → (zx_T σ_43) → (∀ a i : Int, (¬ (a = 0 ∧ i = 15) ∧ ¬ (a = 0 ∧ i = 16) ∧ a ≠ 19) → σ_43 a i = σ a i) → (σ_43 0 15 = (zu_rln σ r20 (σ 10) (σ 0 14) x4_43).1) → ((zu_rln σ r20 (σ 10) (σ 0 14) x4_43).2 = true) → (zq_hid ((x3_43 = 1 → zu_an (zu_rH σ r20) x4_43 = false) ∧ (x3_43 = 0 → zu_an (zu_rH σ r20) x4_43 = true))) → (zq_hid (∀ f, 0 ≤ f → f < x4_43 → zu_rH σ r20 f = true → σ_43 19 f = zu_rlv σ r20 (σ 10) (σ 0 14) f)) → 4 - x4_43 < (fuel : Int) → V 43 [some (ZR 0), none, some (ZI r20), some (ZI x3_43), some (ZI x4_43)] [] 41 σ_43 := by
        intro fuel
        induction fuel with
        | zero =>
          intro x3_43 x4_43 σ_43 hx3_43 hx4_43 hσ_43 hFσ_43 hi43_0 hi43_1 hi43_2 hi43_3 hm43
          exfalso; omega
        | succ fuel ih =>
          intro x3_43 x4_43 σ_43 hx3_43 hx4_43 hσ_43 hFσ_43 hi43_0 hi43_1 hi43_2 hi43_3 hm43
          have ih43 := ih
          show V 43 [some (ZR 0), none, some (ZI r20), some (ZI x3_43), some (ZI x4_43)] [] 41 σ_43
          refine zr_iload (pc := 43) hV dX12_readLine_43 rfl ?_
          refine zr_iconst (pc := 45) hV 4 dX12_readLine_45 rfl ?_
          refine zr_icmp_ge (pc := 46) hV 116 dX12_readLine_46 (by decide) (by omega) ⟨by decide, by decide⟩ (fun c12 => ?_) (fun c12 => ?_)
          · show V 116 [some (ZR 0), none, some (ZI r20), some (ZI x3_43), some (ZI x4_43)] [] 41 σ_43
            have ok4 : (zu_rln σ r20 (σ 10) (σ 0 14) 4).2 = true := by rw [show (4 : Int) = x4_43 by omega]; exact hi43_1
            have p4 : σ_43 0 15 = (zu_rln σ r20 (σ 10) (σ 0 14) 4).1 := by rw [show (4 : Int) = x4_43 by omega]; exact hi43_0
            refine zr_aload_n (pc := 116) hV dX12_readLine_116 rfl rfl ?_
            refine zr_callVi (pc := 117) hV [] (st := []) (c_X12_next2 (σ := σ_43) hσ_43 ) dX12_readLine_117 mX12_203 rfl (by decide) (by decide) (Nat.le_of_ble_eq_true rfl) (Nat.le_refl _) (fun r117 σ117 hr117 pσ117 => ?_)
            obtain ⟨hσ117, hfσ117, pσ117⟩ := pσ117
            have hFσ117 : ∀ a i : Int, (¬ (a = 0 ∧ i = 15) ∧ ¬ (a = 0 ∧ i = 16) ∧ a ≠ 19) → σ117 a i = σ a i := fun a i h => (hfσ117 a i h.1).trans (hFσ_43 a i h)
            have t13 := zx_g14 hσ_43
            have t14 : σ_43 0 14 = σ 0 14 := hFσ_43 _ _ (by omega)
            have t15 := zx_g15 hσ_43
            have Tσ_43 : σ_43 10 = σ 10 := funext (fun i => hFσ_43 10 i (by omega))
            have Nσ_43 : σ_43 0 14 = σ 0 14 := hFσ_43 0 14 (by omega)
            rw [Tσ_43, Nσ_43] at pσ117
            have t16 := zx_g15 hσ117
            rw [p4] at pσ117
            have zm1 : zt_nx (σ 10) (σ 0 14) (zu_rln σ r20 (σ 10) (σ 0 14) 4).1 < 0 → zt_nx (σ 10) (σ 0 14) (zu_rln σ r20 (σ 10) (σ 0 14) 4).1 = -1 := fun h => zt_nx_m1 q0 (by have := zx_g15 hσ_43; omega) h
            refine zr_if_ge (pc := 120) hV 127 dX12_readLine_120 (by decide) (by omega) (fun c17 => ?_) (fun c17 => ?_)
            · show V 127 [some (ZR 0), none, some (ZI r20), some (ZI x3_43), some (ZI x4_43)] [] 41 σ117
              refine zr_iconst (pc := 127) hV (-1) dX12_readLine_127 rfl ?_
              show V 128 [some (ZR 0), none, some (ZI r20), some (ZI x3_43), some (ZI x4_43)] [ZI (-1)] 41 σ117
              have t18 := zx_g15 hσ117
              exact zr_iret (pc := 128) hV dX12_readLine_128 rfl rfl ⟨_, rfl, ⟨by decide, by decide⟩, hσ117, hFσ117, ⟨by omega, by omega, by omega⟩, (show ((∀ i, 0 ≤ i → i < σ 0 3 → σ 1 i ≠ (zt_nb (σ 10) (zt_z0 (σ 10) (σ 0 14)) (zt_n0 (σ 10) (σ 0 14)))) ∧ ((-1) : Int) = -1 ∧ σ117 0 15 = (zt_z0 (σ 10) (σ 0 14))) ∨ (∃ o, 0 ≤ o ∧ o < σ 0 3 ∧ σ 1 o = (zt_nb (σ 10) (zt_z0 (σ 10) (σ 0 14)) (zt_n0 (σ 10) (σ 0 14))) ∧ (∀ i, 0 ≤ i → i < o → σ 1 i ≠ (zt_nb (σ 10) (zt_z0 (σ 10) (σ 0 14)) (zt_n0 (σ 10) (σ 0 14)))) ∧ ((zu_rln σ o (σ 10) (σ 0 14) 4).2 = false → ((-1) : Int) = -1 ∧ σ117 0 15 = (zu_rln σ o (σ 10) (σ 0 14) 4).1) ∧ ((zu_rln σ o (σ 10) (σ 0 14) 4).2 = true → (zt_nx (σ 10) (σ 0 14) (zu_rln σ o (σ 10) (σ 0 14) 4).1 ≠ -1 → ((-1) : Int) = -1 ∧ σ117 0 15 = zt_sk (σ 10) (σ 0 14) (zu_rln σ o (σ 10) (σ 0 14) 4).1) ∧ (zt_nx (σ 10) (σ 0 14) (zu_rln σ o (σ 10) (σ 0 14) 4).1 = -1 → ((-1) : Int) = o ∧ (∀ f, 0 ≤ f → f < 4 → zu_rH σ o f = true → σ117 19 f = zu_rlv σ o (σ 10) (σ 0 14) f)))) from (Or.inr ⟨r20, by omega, by omega, nm20, lst20, ⟨fun h => absurd (ok4.symm.trans h) (by decide), fun _ => ⟨fun _ => ⟨by omega, by omega⟩, fun h => absurd h (by omega)⟩⟩⟩))⟩
            · show V 123 [some (ZR 0), none, some (ZI r20), some (ZI x3_43), some (ZI x4_43)] [] 41 σ117
              refine zr_iload_n (pc := 123) hV dX12_readLine_123 rfl rfl ?_
              refine zr_goto (pc := 124) hV 128 dX12_readLine_124 (by decide) ?_
              show V 128 [some (ZR 0), none, some (ZI r20), some (ZI x3_43), some (ZI x4_43)] [ZI r20] 41 σ117
              have t19 := zx_g15 hσ117
              exact zr_iret (pc := 128) hV dX12_readLine_128 rfl rfl ⟨_, rfl, (by omega), hσ117, hFσ117, ⟨by omega, by omega, by omega⟩, (show ((∀ i, 0 ≤ i → i < σ 0 3 → σ 1 i ≠ (zt_nb (σ 10) (zt_z0 (σ 10) (σ 0 14)) (zt_n0 (σ 10) (σ 0 14)))) ∧ r20 = -1 ∧ σ117 0 15 = (zt_z0 (σ 10) (σ 0 14))) ∨ (∃ o, 0 ≤ o ∧ o < σ 0 3 ∧ σ 1 o = (zt_nb (σ 10) (zt_z0 (σ 10) (σ 0 14)) (zt_n0 (σ 10) (σ 0 14))) ∧ (∀ i, 0 ≤ i → i < o → σ 1 i ≠ (zt_nb (σ 10) (zt_z0 (σ 10) (σ 0 14)) (zt_n0 (σ 10) (σ 0 14)))) ∧ ((zu_rln σ o (σ 10) (σ 0 14) 4).2 = false → r20 = -1 ∧ σ117 0 15 = (zu_rln σ o (σ 10) (σ 0 14) 4).1) ∧ ((zu_rln σ o (σ 10) (σ 0 14) 4).2 = true → (zt_nx (σ 10) (σ 0 14) (zu_rln σ o (σ 10) (σ 0 14) 4).1 ≠ -1 → r20 = -1 ∧ σ117 0 15 = zt_sk (σ 10) (σ 0 14) (zu_rln σ o (σ 10) (σ 0 14) 4).1) ∧ (zt_nx (σ 10) (σ 0 14) (zu_rln σ o (σ 10) (σ 0 14) 4).1 = -1 → r20 = o ∧ (∀ f, 0 ≤ f → f < 4 → zu_rH σ o f = true → σ117 19 f = zu_rlv σ o (σ 10) (σ 0 14) f)))) from (Or.inr ⟨r20, by omega, by omega, nm20, lst20, ⟨fun h => absurd (ok4.symm.trans h) (by decide), fun _ => ⟨fun h => absurd (zm1 (by omega)) h, fun _ => ⟨by omega, fun f h0 h1 hH => by rw [hfσ117 19 f (by omega)]; exact hi43_3 f h0 (by omega) hH⟩⟩⟩⟩))⟩
          · show V 49 [some (ZR 0), none, some (ZI r20), some (ZI x3_43), some (ZI x4_43)] [] 41 σ_43
            refine zr_aload_n (pc := 49) hV dX12_readLine_49 rfl rfl ?_
            refine zr_iload_n (pc := 50) hV dX12_readLine_50 rfl rfl ?_
            refine zr_iload (pc := 51) hV dX12_readLine_51 rfl ?_
            refine zr_callVp (pc := 53) hV [ZI r20, ZI x4_43] (st := []) (c_X12_hasField (σ := σ_43) hσ_43 r20 x4_43 (by omega) (by omega)) dX12_readLine_53 mX12_188 rfl (by decide) (by decide) (Nat.le_of_ble_eq_true rfl) (Nat.le_refl _) (fun r53 hr53 pr53 => ?_)
            have t20 := zx_g2 hσ_43
            have t21 : σ_43 0 2 = σ 0 2 := hFσ_43 _ _ (by omega)
            have fc : zx_cnt σ_43 r20 x4_43 (σ_43 0 2) = zx_cnt σ r20 x4_43 (σ 0 2) := by rw [hFσ_43 0 2 (by omega), zx_cnt_fr (fun i => hFσ_43 2 i (by omega))]
            rw [fc] at pr53
            refine zr_if_eq (pc := 56) hV 110 dX12_readLine_56 (by decide) (by omega) (fun c22 => ?_) (fun c22 => ?_)
            · show V 110 [some (ZR 0), none, some (ZI r20), some (ZI x3_43), some (ZI x4_43)] [] 41 σ_43
              refine zr_iinc (pc := 110) hV [some (ZR 0), none, some (ZI r20), some (ZI x3_43), some (ZI (x4_43 + 1))] (x4_43 + 1) dX12_readLine_110 rfl rfl (by decide) rfl rfl ?_
              refine zr_goto (pc := 113) hV 43 dX12_readLine_113 (by decide) ?_
              have t23 := zx_g15 hσ_43
              exact ih43 x3_43 (x4_43 + 1) σ_43 (by omega) (by omega) hσ_43 hFσ_43 (by unfold zu_rln; rw [zu_ln_n (by omega) (fun q => absurd (of_decide_eq_true q) (by omega))]; exact hi43_0) (by unfold zu_rln; rw [zu_ln_n (by omega) (fun q => absurd (of_decide_eq_true q) (by omega))]; exact hi43_1) (by rw [zu_an_n (by omega) (fun q => absurd (of_decide_eq_true q) (by omega))]; exact hi43_2) (fun f h0 h1 hH => if hc : f = x4_43 then absurd (hc ▸ hH) (fun q => absurd (of_decide_eq_true q) (by omega)) else hi43_3 f h0 (by omega) hH) (by omega)
            · show V 59 [some (ZR 0), none, some (ZI r20), some (ZI x3_43), some (ZI x4_43)] [] 41 σ_43
              have yH : zu_rH σ r20 x4_43 = true := decide_eq_true (by omega)
              refine zr_iload_n (pc := 59) hV dX12_readLine_59 rfl rfl ?_
              refine zr_if_ne (pc := 60) hV 74 dX12_readLine_60 (by decide) (by omega) (fun c24 => ?_) (fun c24 => ?_)
              · show V 74 [some (ZR 0), none, some (ZI r20), some (ZI x3_43), some (ZI x4_43)] [] 41 σ_43
                refine zr_iconst (pc := 74) hV 0 dX12_readLine_74 rfl ?_
                refine zr_istore_n (pc := 75) hV [some (ZR 0), none, some (ZI r20), some (ZI 0), some (ZI x4_43)] dX12_readLine_75 rfl (by decide) rfl rfl ?_
                refine zr_aload_n (pc := 76) hV dX12_readLine_76 rfl rfl ?_
                refine zr_getR (pc := 77) hV 32 19 dX12_readLine_77 fX12_78 rfl rfl rfl (by decide) (zx_g32 hσ_43) (by omega) ?_
                refine zr_iload (pc := 80) hV dX12_readLine_80 rfl ?_
                refine zr_aload_n (pc := 82) hV dX12_readLine_82 rfl rfl ?_
                refine zr_iconst (pc := 83) hV 1 dX12_readLine_83 rfl ?_
                refine zr_aload_n (pc := 84) hV dX12_readLine_84 rfl rfl ?_
                refine zr_iload_n (pc := 85) hV dX12_readLine_85 rfl rfl ?_
                refine zr_iload (pc := 86) hV dX12_readLine_86 rfl ?_
                refine zr_callVp (pc := 88) hV [ZI r20, ZI x4_43] (st := [ZI 1, ZR 0, ZI x4_43, ZR 19]) (c_X12_fieldBits (σ := σ_43) hσ_43 r20 x4_43 (by omega) (by omega)) dX12_readLine_88 mX12_184 rfl (by decide) (by decide) (Nat.le_of_ble_eq_true rfl) (Nat.le_refl _) (fun r88 hr88 pr88 => ?_)
                have t25 := zx_g2 hσ_43
                have t26 : σ_43 0 2 = σ 0 2 := hFσ_43 _ _ (by omega)
                have z88 : r88 = zx_cnt σ r20 x4_43 (σ 0 2) := by rw [pr88.2.2, hFσ_43 0 2 (by omega), zx_cnt_fr (fun i => hFσ_43 2 i (by omega))]
                have zp8 := zx_p2_le (m := r88) (n := 12) (by omega)
                have zp88 := zx_p2_12
                refine zr_ishl (pc := 91) hV dX12_readLine_91 ?_
                have t27 := zx_shl_one (y := r88) 12 4096 (by decide) (by decide) (by omega)
                refine zr_iconst (pc := 92) hV 1 dX12_readLine_92 rfl ?_
                refine zr_isub (pc := 93) hV dX12_readLine_93 ?_
                refine zr_callVi (pc := 94) hV [ZI ((zq_shl 1 r88) - 1)] (st := [ZI x4_43, ZR 19]) (c_X12_number2 (σ := σ_43) hσ_43 ((zq_shl 1 r88) - 1) (by omega)) dX12_readLine_94 mX12_238 rfl (by decide) (by decide) (Nat.le_of_ble_eq_true rfl) (Nat.le_refl _) (fun r94 σ94 hr94 pσ94 => ?_)
                obtain ⟨hσ94, hfσ94, pσ94⟩ := pσ94
                have hFσ94 : ∀ a i : Int, (¬ (a = 0 ∧ i = 15) ∧ ¬ (a = 0 ∧ i = 16) ∧ a ≠ 19) → σ94 a i = σ a i := fun a i h => (hfσ94 a i h.1).trans (hFσ_43 a i h)
                have t28 := zx_g14 hσ_43
                have t29 : σ_43 0 14 = σ 0 14 := hFσ_43 _ _ (by omega)
                have t30 := zx_g15 hσ_43
                have Tσ_43 : σ_43 10 = σ 10 := funext (fun i => hFσ_43 10 i (by omega))
                have Nσ_43 : σ_43 0 14 = σ 0 14 := hFσ_43 0 14 (by omega)
                rw [Tσ_43, Nσ_43] at pσ94
                have t31 := zx_g15 hσ94
                have zl : zu_l1 (zu_rH σ r20) (σ 10) (σ 0 14) (zu_rln σ r20 (σ 10) (σ 0 14) x4_43).1 x4_43 = σ_43 0 15 := by rw [zu_l1_n _ (fun q => absurd ((hi43_2.1 (by omega)).symm.trans q) (by decide))]; omega
                have zm : (zq_shl 1 r88) - 1 = zu_rX σ r20 x4_43 := by unfold zu_rX; rw [← z88]; omega
                have zV : zu_rlv σ r20 (σ 10) (σ 0 14) x4_43 = r94 := by show zt_nuR (σ 10) (σ 0 14) (zu_rX σ r20 x4_43) (zu_l1 (zu_rH σ r20) (σ 10) (σ 0 14) (zu_rln σ r20 (σ 10) (σ 0 14) x4_43).1 x4_43) = r94; rw [zl, ← zm]; omega
                have zN : (zu_rln σ r20 (σ 10) (σ 0 14) (x4_43 + 1)) = (σ94 0 15, decide (0 ≤ r94)) := by rw [← zV]; unfold zu_rln; rw [zu_ln_m (by omega) hi43_1 yH (fun q => absurd ((hi43_2.1 (by omega)).symm.trans q.1) (by decide))]; refine Prod.ext ?_ rfl; show zt_nuA (σ 10) (σ 0 14) (zu_rX σ r20 x4_43) (zu_l1 (zu_rH σ r20) (σ 10) (σ 0 14) (zu_rln σ r20 (σ 10) (σ 0 14) x4_43).1 x4_43) = σ94 0 15; rw [zl, ← zm]; omega
                refine zr_iast (pc := 97) hV dX12_readLine_97 rfl (by decide) rfl (by omega) (fun σ97 eσ97 => ?_)
                have hσ97 : zx_T σ97 := zx_ua19 eσ97 hσ94 (by omega)
                have hFσ97 : ∀ a i : Int, (¬ (a = 0 ∧ i = 15) ∧ ¬ (a = 0 ∧ i = 16) ∧ a ≠ 19) → σ97 a i = σ a i := fun a i h => by rw [eσ97, zq_up_ne (fun q => h.2.2 q.1)]; exact hFσ94 a i h
                refine zr_aload_n (pc := 98) hV dX12_readLine_98 rfl rfl ?_
                refine zr_getR (pc := 99) hV 32 19 dX12_readLine_99 fX12_78 rfl rfl rfl (by decide) (zx_g32 hσ97) (by omega) ?_
                refine zr_iload (pc := 102) hV dX12_readLine_102 rfl ?_
                refine zr_iald (pc := 104) hV dX12_readLine_104 rfl (by decide) rfl (by omega) ?_
                have t32 := zx_ga19 hσ97 x4_43
                have t33 : σ97 19 x4_43 = r94 := by rw [eσ97]; exact zq_up_same _ _ _ _
                refine zr_if_ge (pc := 105) hV 110 dX12_readLine_105 (by decide) (by omega) (fun c34 => ?_) (fun c34 => ?_)
                · show V 110 [some (ZR 0), none, some (ZI r20), some (ZI 0), some (ZI x4_43)] [] 41 σ97
                  refine zr_iinc (pc := 110) hV [some (ZR 0), none, some (ZI r20), some (ZI 0), some (ZI (x4_43 + 1))] (x4_43 + 1) dX12_readLine_110 rfl rfl (by decide) rfl rfl ?_
                  refine zr_goto (pc := 113) hV 43 dX12_readLine_113 (by decide) ?_
                  have t35 := zx_g15 hσ97
                  have t36 : σ97 0 15 = σ94 0 15 := by rw [eσ97]; exact zq_up_ne (by omega)
                  exact ih43 0 (x4_43 + 1) σ97 (by omega) (by omega) hσ97 hFσ97 (by rw [zN]; omega) (by rw [zN]; exact decide_eq_true (by omega)) ⟨fun h => absurd h (by omega), fun _ => zu_an_y (by omega) yH⟩ (fun f h0 h1 hH => if hc : f = x4_43 then (by rw [hc, eσ97, zq_up_same]; exact zV.symm) else (by rw [eσ97, zq_up_ne (by omega), hfσ94 19 _ (by omega)]; exact hi43_3 f h0 (by omega) hH)) (by omega)
                · show V 108 [some (ZR 0), none, some (ZI r20), some (ZI 0), some (ZI x4_43)] [] 41 σ97
                  have zF : (zu_rln σ r20 (σ 10) (σ 0 14) 4) = (σ94 0 15, false) := by have q := zN; rw [decide_eq_false (show ¬ 0 ≤ r94 by omega)] at q; unfold zu_rln at q ⊢; rw [zu_ln_f (k := x4_43 + 1) (by omega) (by rw [q]) (by omega)]; exact q
                  refine zr_iconst (pc := 108) hV (-1) dX12_readLine_108 rfl ?_
                  have t37 := zx_g15 hσ97
                  have t38 : σ97 0 15 = σ94 0 15 := by rw [eσ97]; exact zq_up_ne (by omega)
                  exact zr_iret (pc := 109) hV dX12_readLine_109 rfl rfl ⟨_, rfl, ⟨by decide, by decide⟩, hσ97, hFσ97, ⟨by omega, by omega, by omega⟩, (show ((∀ i, 0 ≤ i → i < σ 0 3 → σ 1 i ≠ (zt_nb (σ 10) (zt_z0 (σ 10) (σ 0 14)) (zt_n0 (σ 10) (σ 0 14)))) ∧ ((-1) : Int) = -1 ∧ σ97 0 15 = (zt_z0 (σ 10) (σ 0 14))) ∨ (∃ o, 0 ≤ o ∧ o < σ 0 3 ∧ σ 1 o = (zt_nb (σ 10) (zt_z0 (σ 10) (σ 0 14)) (zt_n0 (σ 10) (σ 0 14))) ∧ (∀ i, 0 ≤ i → i < o → σ 1 i ≠ (zt_nb (σ 10) (zt_z0 (σ 10) (σ 0 14)) (zt_n0 (σ 10) (σ 0 14)))) ∧ ((zu_rln σ o (σ 10) (σ 0 14) 4).2 = false → ((-1) : Int) = -1 ∧ σ97 0 15 = (zu_rln σ o (σ 10) (σ 0 14) 4).1) ∧ ((zu_rln σ o (σ 10) (σ 0 14) 4).2 = true → (zt_nx (σ 10) (σ 0 14) (zu_rln σ o (σ 10) (σ 0 14) 4).1 ≠ -1 → ((-1) : Int) = -1 ∧ σ97 0 15 = zt_sk (σ 10) (σ 0 14) (zu_rln σ o (σ 10) (σ 0 14) 4).1) ∧ (zt_nx (σ 10) (σ 0 14) (zu_rln σ o (σ 10) (σ 0 14) 4).1 = -1 → ((-1) : Int) = o ∧ (∀ f, 0 ≤ f → f < 4 → zu_rH σ o f = true → σ97 19 f = zu_rlv σ o (σ 10) (σ 0 14) f)))) from (Or.inr ⟨r20, by omega, by omega, nm20, lst20, ⟨fun _ => ⟨by omega, by rw [zF]; omega⟩, fun h => absurd (show false = true by rw [zF] at h; exact h) (by decide)⟩⟩))⟩
              · show V 63 [some (ZR 0), none, some (ZI r20), some (ZI x3_43), some (ZI x4_43)] [] 41 σ_43
                refine zr_aload_n (pc := 63) hV dX12_readLine_63 rfl rfl ?_
                refine zr_bipush (pc := 64) hV 44 dX12_readLine_64 (by decide) ?_
                refine zr_callVi (pc := 66) hV [ZI 44] (st := []) (c_X12_takes2 (σ := σ_43) hσ_43 44 (by omega)) dX12_readLine_66 mX12_234 rfl (by decide) (by decide) (Nat.le_of_ble_eq_true rfl) (Nat.le_refl _) (fun r66 σ66 hr66 pσ66 => ?_)
                obtain ⟨hσ66, hfσ66, pσ66⟩ := pσ66
                have hFσ66 : ∀ a i : Int, (¬ (a = 0 ∧ i = 15) ∧ ¬ (a = 0 ∧ i = 16) ∧ a ≠ 19) → σ66 a i = σ a i := fun a i h => (hfσ66 a i h.1).trans (hFσ_43 a i h)
                have t39 := zx_g14 hσ_43
                have t40 : σ_43 0 14 = σ 0 14 := hFσ_43 _ _ (by omega)
                have t41 := zx_g15 hσ_43
                have Tσ_43 : σ_43 10 = σ 10 := funext (fun i => hFσ_43 10 i (by omega))
                have Nσ_43 : σ_43 0 14 = σ 0 14 := hFσ_43 0 14 (by omega)
                rw [Tσ_43, Nσ_43] at pσ66
                have t42 := zx_g15 hσ66
                rw [hi43_0] at pσ66
                refine zr_if_ne (pc := 69) hV 74 dX12_readLine_69 (by decide) (by omega) (fun c43 => ?_) (fun c43 => ?_)
                · show V 74 [some (ZR 0), none, some (ZI r20), some (ZI x3_43), some (ZI x4_43)] [] 41 σ66
                  refine zr_iconst (pc := 74) hV 0 dX12_readLine_74 rfl ?_
                  refine zr_istore_n (pc := 75) hV [some (ZR 0), none, some (ZI r20), some (ZI 0), some (ZI x4_43)] dX12_readLine_75 rfl (by decide) rfl rfl ?_
                  refine zr_aload_n (pc := 76) hV dX12_readLine_76 rfl rfl ?_
                  refine zr_getR (pc := 77) hV 32 19 dX12_readLine_77 fX12_78 rfl rfl rfl (by decide) (zx_g32 hσ66) (by omega) ?_
                  refine zr_iload (pc := 80) hV dX12_readLine_80 rfl ?_
                  refine zr_aload_n (pc := 82) hV dX12_readLine_82 rfl rfl ?_
                  refine zr_iconst (pc := 83) hV 1 dX12_readLine_83 rfl ?_
                  refine zr_aload_n (pc := 84) hV dX12_readLine_84 rfl rfl ?_
                  refine zr_iload_n (pc := 85) hV dX12_readLine_85 rfl rfl ?_
                  refine zr_iload (pc := 86) hV dX12_readLine_86 rfl ?_
                  refine zr_callVp (pc := 88) hV [ZI r20, ZI x4_43] (st := [ZI 1, ZR 0, ZI x4_43, ZR 19]) (c_X12_fieldBits (σ := σ66) hσ66 r20 x4_43 (by omega) (by omega)) dX12_readLine_88 mX12_184 rfl (by decide) (by decide) (Nat.le_of_ble_eq_true rfl) (Nat.le_refl _) (fun r88 hr88 pr88 => ?_)
                  have t44 := zx_g2 hσ66
                  have t45 : σ66 0 2 = σ_43 0 2 := hfσ66 _ _ (by omega)
                  have t46 : σ_43 0 2 = σ 0 2 := hFσ_43 _ _ (by omega)
                  have z88 : r88 = zx_cnt σ r20 x4_43 (σ 0 2) := by rw [pr88.2.2, hFσ66 0 2 (by omega), zx_cnt_fr (fun i => hFσ66 2 i (by omega))]
                  have zp8 := zx_p2_le (m := r88) (n := 12) (by omega)
                  have zp88 := zx_p2_12
                  refine zr_ishl (pc := 91) hV dX12_readLine_91 ?_
                  have t47 := zx_shl_one (y := r88) 12 4096 (by decide) (by decide) (by omega)
                  refine zr_iconst (pc := 92) hV 1 dX12_readLine_92 rfl ?_
                  refine zr_isub (pc := 93) hV dX12_readLine_93 ?_
                  refine zr_callVi (pc := 94) hV [ZI ((zq_shl 1 r88) - 1)] (st := [ZI x4_43, ZR 19]) (c_X12_number2 (σ := σ66) hσ66 ((zq_shl 1 r88) - 1) (by omega)) dX12_readLine_94 mX12_238 rfl (by decide) (by decide) (Nat.le_of_ble_eq_true rfl) (Nat.le_refl _) (fun r94 σ94 hr94 pσ94 => ?_)
                  obtain ⟨hσ94, hfσ94, pσ94⟩ := pσ94
                  have hFσ94 : ∀ a i : Int, (¬ (a = 0 ∧ i = 15) ∧ ¬ (a = 0 ∧ i = 16) ∧ a ≠ 19) → σ94 a i = σ a i := fun a i h => (hfσ94 a i h.1).trans (hFσ66 a i h)
                  have t48 := zx_g14 hσ66
                  have t49 : σ66 0 14 = σ_43 0 14 := hfσ66 _ _ (by omega)
                  have t50 : σ_43 0 14 = σ 0 14 := hFσ_43 _ _ (by omega)
                  have t51 := zx_g15 hσ66
                  have Tσ66 : σ66 10 = σ 10 := funext (fun i => hFσ66 10 i (by omega))
                  have Nσ66 : σ66 0 14 = σ 0 14 := hFσ66 0 14 (by omega)
                  rw [Tσ66, Nσ66] at pσ94
                  have t52 := zx_g15 hσ94
                  have zl : zu_l1 (zu_rH σ r20) (σ 10) (σ 0 14) (zu_rln σ r20 (σ 10) (σ 0 14) x4_43).1 x4_43 = σ66 0 15 := by rw [zu_l1_y _ (hi43_2.2 (by omega))]; omega
                  have zm : (zq_shl 1 r88) - 1 = zu_rX σ r20 x4_43 := by unfold zu_rX; rw [← z88]; omega
                  have zV : zu_rlv σ r20 (σ 10) (σ 0 14) x4_43 = r94 := by show zt_nuR (σ 10) (σ 0 14) (zu_rX σ r20 x4_43) (zu_l1 (zu_rH σ r20) (σ 10) (σ 0 14) (zu_rln σ r20 (σ 10) (σ 0 14) x4_43).1 x4_43) = r94; rw [zl, ← zm]; omega
                  have zN : (zu_rln σ r20 (σ 10) (σ 0 14) (x4_43 + 1)) = (σ94 0 15, decide (0 ≤ r94)) := by rw [← zV]; unfold zu_rln; rw [zu_ln_m (by omega) hi43_1 yH (fun q => absurd (show zt_tkR (σ 10) (σ 0 14) 44 (zu_rln σ r20 (σ 10) (σ 0 14) x4_43).1 = 0 from q.2) (by omega))]; refine Prod.ext ?_ rfl; show zt_nuA (σ 10) (σ 0 14) (zu_rX σ r20 x4_43) (zu_l1 (zu_rH σ r20) (σ 10) (σ 0 14) (zu_rln σ r20 (σ 10) (σ 0 14) x4_43).1 x4_43) = σ94 0 15; rw [zl, ← zm]; omega
                  refine zr_iast (pc := 97) hV dX12_readLine_97 rfl (by decide) rfl (by omega) (fun σ97 eσ97 => ?_)
                  have hσ97 : zx_T σ97 := zx_ua19 eσ97 hσ94 (by omega)
                  have hFσ97 : ∀ a i : Int, (¬ (a = 0 ∧ i = 15) ∧ ¬ (a = 0 ∧ i = 16) ∧ a ≠ 19) → σ97 a i = σ a i := fun a i h => by rw [eσ97, zq_up_ne (fun q => h.2.2 q.1)]; exact hFσ94 a i h
                  refine zr_aload_n (pc := 98) hV dX12_readLine_98 rfl rfl ?_
                  refine zr_getR (pc := 99) hV 32 19 dX12_readLine_99 fX12_78 rfl rfl rfl (by decide) (zx_g32 hσ97) (by omega) ?_
                  refine zr_iload (pc := 102) hV dX12_readLine_102 rfl ?_
                  refine zr_iald (pc := 104) hV dX12_readLine_104 rfl (by decide) rfl (by omega) ?_
                  have t53 := zx_ga19 hσ97 x4_43
                  have t54 : σ97 19 x4_43 = r94 := by rw [eσ97]; exact zq_up_same _ _ _ _
                  refine zr_if_ge (pc := 105) hV 110 dX12_readLine_105 (by decide) (by omega) (fun c55 => ?_) (fun c55 => ?_)
                  · show V 110 [some (ZR 0), none, some (ZI r20), some (ZI 0), some (ZI x4_43)] [] 41 σ97
                    refine zr_iinc (pc := 110) hV [some (ZR 0), none, some (ZI r20), some (ZI 0), some (ZI (x4_43 + 1))] (x4_43 + 1) dX12_readLine_110 rfl rfl (by decide) rfl rfl ?_
                    refine zr_goto (pc := 113) hV 43 dX12_readLine_113 (by decide) ?_
                    have t56 := zx_g15 hσ97
                    have t57 : σ97 0 15 = σ94 0 15 := by rw [eσ97]; exact zq_up_ne (by omega)
                    exact ih43 0 (x4_43 + 1) σ97 (by omega) (by omega) hσ97 hFσ97 (by rw [zN]; omega) (by rw [zN]; exact decide_eq_true (by omega)) ⟨fun h => absurd h (by omega), fun _ => zu_an_y (by omega) yH⟩ (fun f h0 h1 hH => if hc : f = x4_43 then (by rw [hc, eσ97, zq_up_same]; exact zV.symm) else (by rw [eσ97, zq_up_ne (by omega), hfσ94 19 _ (by omega), hfσ66 19 _ (by omega)]; exact hi43_3 f h0 (by omega) hH)) (by omega)
                  · show V 108 [some (ZR 0), none, some (ZI r20), some (ZI 0), some (ZI x4_43)] [] 41 σ97
                    have zF : (zu_rln σ r20 (σ 10) (σ 0 14) 4) = (σ94 0 15, false) := by have q := zN; rw [decide_eq_false (show ¬ 0 ≤ r94 by omega)] at q; unfold zu_rln at q ⊢; rw [zu_ln_f (k := x4_43 + 1) (by omega) (by rw [q]) (by omega)]; exact q
                    refine zr_iconst (pc := 108) hV (-1) dX12_readLine_108 rfl ?_
                    have t58 := zx_g15 hσ97
                    have t59 : σ97 0 15 = σ94 0 15 := by rw [eσ97]; exact zq_up_ne (by omega)
                    exact zr_iret (pc := 109) hV dX12_readLine_109 rfl rfl ⟨_, rfl, ⟨by decide, by decide⟩, hσ97, hFσ97, ⟨by omega, by omega, by omega⟩, (show ((∀ i, 0 ≤ i → i < σ 0 3 → σ 1 i ≠ (zt_nb (σ 10) (zt_z0 (σ 10) (σ 0 14)) (zt_n0 (σ 10) (σ 0 14)))) ∧ ((-1) : Int) = -1 ∧ σ97 0 15 = (zt_z0 (σ 10) (σ 0 14))) ∨ (∃ o, 0 ≤ o ∧ o < σ 0 3 ∧ σ 1 o = (zt_nb (σ 10) (zt_z0 (σ 10) (σ 0 14)) (zt_n0 (σ 10) (σ 0 14))) ∧ (∀ i, 0 ≤ i → i < o → σ 1 i ≠ (zt_nb (σ 10) (zt_z0 (σ 10) (σ 0 14)) (zt_n0 (σ 10) (σ 0 14)))) ∧ ((zu_rln σ o (σ 10) (σ 0 14) 4).2 = false → ((-1) : Int) = -1 ∧ σ97 0 15 = (zu_rln σ o (σ 10) (σ 0 14) 4).1) ∧ ((zu_rln σ o (σ 10) (σ 0 14) 4).2 = true → (zt_nx (σ 10) (σ 0 14) (zu_rln σ o (σ 10) (σ 0 14) 4).1 ≠ -1 → ((-1) : Int) = -1 ∧ σ97 0 15 = zt_sk (σ 10) (σ 0 14) (zu_rln σ o (σ 10) (σ 0 14) 4).1) ∧ (zt_nx (σ 10) (σ 0 14) (zu_rln σ o (σ 10) (σ 0 14) 4).1 = -1 → ((-1) : Int) = o ∧ (∀ f, 0 ≤ f → f < 4 → zu_rH σ o f = true → σ97 19 f = zu_rlv σ o (σ 10) (σ 0 14) f)))) from (Or.inr ⟨r20, by omega, by omega, nm20, lst20, ⟨fun _ => ⟨by omega, by rw [zF]; omega⟩, fun h => absurd (show false = true by rw [zF] at h; exact h) (by decide)⟩⟩))⟩
                · show V 72 [some (ZR 0), none, some (ZI r20), some (ZI x3_43), some (ZI x4_43)] [] 41 σ66
                  have zF : (zu_rln σ r20 (σ 10) (σ 0 14) 4) = (zt_tkA (σ 10) (σ 0 14) 44 (zu_rln σ r20 (σ 10) (σ 0 14) x4_43).1, false) := by have q := zu_ln_c (k := x4_43) (by omega) hi43_1 yH (hi43_2.2 (by omega)) (show zt_tkR (σ 10) (σ 0 14) 44 (zu_rln σ r20 (σ 10) (σ 0 14) x4_43).1 = 0 by omega); unfold zu_rln; rw [zu_ln_f (k := x4_43 + 1) (by omega) (by rw [q]) (by omega)]; exact q
                  refine zr_iconst (pc := 72) hV (-1) dX12_readLine_72 rfl ?_
                  have t60 := zx_g15 hσ66
                  exact zr_iret (pc := 73) hV dX12_readLine_73 rfl rfl ⟨_, rfl, ⟨by decide, by decide⟩, hσ66, hFσ66, ⟨by omega, by omega, by omega⟩, (show ((∀ i, 0 ≤ i → i < σ 0 3 → σ 1 i ≠ (zt_nb (σ 10) (zt_z0 (σ 10) (σ 0 14)) (zt_n0 (σ 10) (σ 0 14)))) ∧ ((-1) : Int) = -1 ∧ σ66 0 15 = (zt_z0 (σ 10) (σ 0 14))) ∨ (∃ o, 0 ≤ o ∧ o < σ 0 3 ∧ σ 1 o = (zt_nb (σ 10) (zt_z0 (σ 10) (σ 0 14)) (zt_n0 (σ 10) (σ 0 14))) ∧ (∀ i, 0 ≤ i → i < o → σ 1 i ≠ (zt_nb (σ 10) (zt_z0 (σ 10) (σ 0 14)) (zt_n0 (σ 10) (σ 0 14)))) ∧ ((zu_rln σ o (σ 10) (σ 0 14) 4).2 = false → ((-1) : Int) = -1 ∧ σ66 0 15 = (zu_rln σ o (σ 10) (σ 0 14) 4).1) ∧ ((zu_rln σ o (σ 10) (σ 0 14) 4).2 = true → (zt_nx (σ 10) (σ 0 14) (zu_rln σ o (σ 10) (σ 0 14) 4).1 ≠ -1 → ((-1) : Int) = -1 ∧ σ66 0 15 = zt_sk (σ 10) (σ 0 14) (zu_rln σ o (σ 10) (σ 0 14) 4).1) ∧ (zt_nx (σ 10) (σ 0 14) (zu_rln σ o (σ 10) (σ 0 14) 4).1 = -1 → ((-1) : Int) = o ∧ (∀ f, 0 ≤ f → f < 4 → zu_rH σ o f = true → σ66 19 f = zu_rlv σ o (σ 10) (σ 0 14) f)))) from (Or.inr ⟨r20, by omega, by omega, nm20, lst20, ⟨fun _ => ⟨by omega, by rw [zF]; omega⟩, fun h => absurd (show false = true by rw [zF] at h; exact h) (by decide)⟩⟩))⟩
      have t61 := zx_g15 hσ6
      refine zr_sub (pc := 43) hV [some (ZR 0), none, some (ZI r20), some (ZI 1), some (ZI 0)] (⟨rfl, rfl, rfl, rfl, trivial⟩) ?_
      exact L43 (4 - (0 : Int) + 1 : Int).toNat 1 0 σ6 (by omega) (by omega) hσ6 hFσ6 (show σ6 0 15 = (zt_p0 (σ 10) (σ 0 14)) from a6) rfl ⟨fun _ => rfl, fun h => absurd h (by omega)⟩ (fun f h0 h1 => absurd h1 (by omega)) (by omega)
    · show V 28 [some (ZR 0), some (ZI r6), some (ZI r20), none, none] [] 41 σ6
      refine zr_aload_n (pc := 28) hV dX12_readLine_28 rfl rfl ?_
      refine zr_aload_n (pc := 29) hV dX12_readLine_29 rfl rfl ?_
      refine zr_getI (pc := 30) hV 16 dX12_readLine_30 fX12_211 rfl rfl rfl (by decide) ?_
      have t62 := zx_g16 hσ6
      refine zr_putI (pc := 33) hV 15 dX12_readLine_33 fX12_200 rfl rfl rfl rfl (by decide) (fun σ33 eσ33 => ?_)
      have hσ33 : zx_T σ33 := zx_u15 eσ33 hσ6 (by omega)
      have hFσ33 : ∀ a i : Int, (¬ (a = 0 ∧ i = 15) ∧ ¬ (a = 0 ∧ i = 16) ∧ a ≠ 19) → σ33 a i = σ a i := fun a i h => by rw [eσ33, zq_up_ne h.1]; exact hFσ6 a i h
      refine zr_iconst (pc := 36) hV (-1) dX12_readLine_36 rfl ?_
      have t63 := zx_g15 hσ33
      have t64 : σ33 0 15 = σ6 0 16 := by rw [eσ33]; exact zq_up_same _ _ _ _
      exact zr_iret (pc := 37) hV dX12_readLine_37 rfl rfl ⟨_, rfl, ⟨by decide, by decide⟩, hσ33, hFσ33, ⟨by omega, by omega, by omega⟩, (show ((∀ i, 0 ≤ i → i < σ 0 3 → σ 1 i ≠ (zt_nb (σ 10) (zt_z0 (σ 10) (σ 0 14)) (zt_n0 (σ 10) (σ 0 14)))) ∧ ((-1) : Int) = -1 ∧ σ33 0 15 = (zt_z0 (σ 10) (σ 0 14))) ∨ (∃ o, 0 ≤ o ∧ o < σ 0 3 ∧ σ 1 o = (zt_nb (σ 10) (zt_z0 (σ 10) (σ 0 14)) (zt_n0 (σ 10) (σ 0 14))) ∧ (∀ i, 0 ≤ i → i < o → σ 1 i ≠ (zt_nb (σ 10) (zt_z0 (σ 10) (σ 0 14)) (zt_n0 (σ 10) (σ 0 14)))) ∧ ((zu_rln σ o (σ 10) (σ 0 14) 4).2 = false → ((-1) : Int) = -1 ∧ σ33 0 15 = (zu_rln σ o (σ 10) (σ 0 14) 4).1) ∧ ((zu_rln σ o (σ 10) (σ 0 14) 4).2 = true → (zt_nx (σ 10) (σ 0 14) (zu_rln σ o (σ 10) (σ 0 14) 4).1 ≠ -1 → ((-1) : Int) = -1 ∧ σ33 0 15 = zt_sk (σ 10) (σ 0 14) (zu_rln σ o (σ 10) (σ 0 14) 4).1) ∧ (zt_nx (σ 10) (σ 0 14) (zu_rln σ o (σ 10) (σ 0 14) 4).1 = -1 → ((-1) : Int) = o ∧ (∀ f, 0 ≤ f → f < 4 → zu_rH σ o f = true → σ33 19 f = zu_rlv σ o (σ 10) (σ 0 14) f)))) from (Or.inl ⟨fun i h0 h1 => by rw [← r6v, ← d1 i]; first | exact (pr20.2.2.2.2 (by omega) i h0 (by rw [d3]; exact h1)) | (have := q1 i h0 h1; have := d1 i; omega), by omega, by have q : σ6 0 16 = (zt_z0 (σ 10) (σ 0 14)) := pσ6.1; omega⟩))⟩
  · show V 14 [some (ZR 0), some (ZI r6), none, none, none] [] 41 σ6
    refine zr_iconst (pc := 14) hV (-1) dX12_readLine_14 rfl ?_
    refine zr_goto (pc := 15) hV 23 dX12_readLine_15 (by decide) ?_
    show V 23 [some (ZR 0), some (ZI r6), none, none, none] [ZI (-1)] 41 σ6
    refine zr_istore_n (pc := 23) hV [some (ZR 0), some (ZI r6), some (ZI (-1)), none, none] dX12_readLine_23 rfl (by decide) rfl rfl ?_
    refine zr_iload_n (pc := 24) hV dX12_readLine_24 rfl rfl ?_
    refine zr_if_ge (pc := 25) hV 38 dX12_readLine_25 (by decide) ⟨by decide, by decide⟩ (fun c65 => ?_) (fun c65 => ?_)
    · exfalso; omega
    · show V 28 [some (ZR 0), some (ZI r6), some (ZI (-1)), none, none] [] 41 σ6
      refine zr_aload_n (pc := 28) hV dX12_readLine_28 rfl rfl ?_
      refine zr_aload_n (pc := 29) hV dX12_readLine_29 rfl rfl ?_
      refine zr_getI (pc := 30) hV 16 dX12_readLine_30 fX12_211 rfl rfl rfl (by decide) ?_
      have t66 := zx_g16 hσ6
      refine zr_putI (pc := 33) hV 15 dX12_readLine_33 fX12_200 rfl rfl rfl rfl (by decide) (fun σ33 eσ33 => ?_)
      have hσ33 : zx_T σ33 := zx_u15 eσ33 hσ6 (by omega)
      have hFσ33 : ∀ a i : Int, (¬ (a = 0 ∧ i = 15) ∧ ¬ (a = 0 ∧ i = 16) ∧ a ≠ 19) → σ33 a i = σ a i := fun a i h => by rw [eσ33, zq_up_ne h.1]; exact hFσ6 a i h
      refine zr_iconst (pc := 36) hV (-1) dX12_readLine_36 rfl ?_
      have t67 := zx_g15 hσ33
      have t68 : σ33 0 15 = σ6 0 16 := by rw [eσ33]; exact zq_up_same _ _ _ _
      exact zr_iret (pc := 37) hV dX12_readLine_37 rfl rfl ⟨_, rfl, ⟨by decide, by decide⟩, hσ33, hFσ33, ⟨by omega, by omega, by omega⟩, (show ((∀ i, 0 ≤ i → i < σ 0 3 → σ 1 i ≠ (zt_nb (σ 10) (zt_z0 (σ 10) (σ 0 14)) (zt_n0 (σ 10) (σ 0 14)))) ∧ ((-1) : Int) = -1 ∧ σ33 0 15 = (zt_z0 (σ 10) (σ 0 14))) ∨ (∃ o, 0 ≤ o ∧ o < σ 0 3 ∧ σ 1 o = (zt_nb (σ 10) (zt_z0 (σ 10) (σ 0 14)) (zt_n0 (σ 10) (σ 0 14))) ∧ (∀ i, 0 ≤ i → i < o → σ 1 i ≠ (zt_nb (σ 10) (zt_z0 (σ 10) (σ 0 14)) (zt_n0 (σ 10) (σ 0 14)))) ∧ ((zu_rln σ o (σ 10) (σ 0 14) 4).2 = false → ((-1) : Int) = -1 ∧ σ33 0 15 = (zu_rln σ o (σ 10) (σ 0 14) 4).1) ∧ ((zu_rln σ o (σ 10) (σ 0 14) 4).2 = true → (zt_nx (σ 10) (σ 0 14) (zu_rln σ o (σ 10) (σ 0 14) 4).1 ≠ -1 → ((-1) : Int) = -1 ∧ σ33 0 15 = zt_sk (σ 10) (σ 0 14) (zu_rln σ o (σ 10) (σ 0 14) 4).1) ∧ (zt_nx (σ 10) (σ 0 14) (zu_rln σ o (σ 10) (σ 0 14) 4).1 = -1 → ((-1) : Int) = o ∧ (∀ f, 0 ≤ f → f < 4 → zu_rH σ o f = true → σ33 19 f = zu_rlv σ o (σ 10) (σ 0 14) f)))) from (Or.inl ⟨fun i h0 h1 => by rw [← r6v, ← d1 i]; first | exact (pr20.2.2.2.2 (by omega) i h0 (by rw [d3]; exact h1)) | (have := q1 i h0 h1; have := d1 i; omega), by omega, by have q : σ6 0 16 = (zt_z0 (σ 10) (σ 0 14)) := pσ6.1; omega⟩))⟩
set_option maxHeartbeats 800000 in
theorem c_X12_line3 {σ : zq_S} (hσ : zx_T σ) (q0 : ∀ i, 0 ≤ i → i < σ 0 14 → 0 ≤ σ 10 i) (q1 : ∀ i, 0 ≤ i → i < σ 0 3 → 1 ≤ σ 1 i ∧ σ 1 i ≤ 19682) : zq_C zx_w yX12_line cX12_line 2 (some .int) 3 73 41 41 [ZR 0] σ (zq_pi (fun r τ => zx_T τ ∧ (∀ a i : Int, (¬ (a = 0 ∧ i = 14) ∧ ¬ (a = 0 ∧ i = 15) ∧ ¬ (a = 0 ∧ i = 16) ∧ a ≠ 19) → τ a i = σ a i) ∧ (τ 0 14 = 0) ∧ zq_hid (((∀ i, 0 ≤ i → i < σ 0 3 → σ 1 i ≠ (zt_nb (σ 10) (zt_z0 (σ 10) (σ 0 14)) (zt_n0 (σ 10) (σ 0 14)))) ∧ r = -20 - (zt_z0 (σ 10) (σ 0 14))) ∨ (∃ o, 0 ≤ o ∧ o < σ 0 3 ∧ σ 1 o = (zt_nb (σ 10) (zt_z0 (σ 10) (σ 0 14)) (zt_n0 (σ 10) (σ 0 14))) ∧ (∀ i, 0 ≤ i → i < o → σ 1 i ≠ (zt_nb (σ 10) (zt_z0 (σ 10) (σ 0 14)) (zt_n0 (σ 10) (σ 0 14)))) ∧ ∃ V : Int → Int, (∀ f, 0 ≤ f → f ≤ 3 → zu_rH σ o f = true → V f = zu_rlv σ o (σ 10) (σ 0 14) f) ∧ zu_la (zu_rln σ o (σ 10) (σ 0 14) 4) (σ 10) (σ 0 14) (zu_rbt σ o V (σ 0 2)) r)))) := by
  refine zq_C_of (by decide) (Nat.le_refl _) (Nat.le_of_ble_eq_true rfl) [some (ZR 0), none] rfl (fun V hV => ?_)
  show V 0 [some (ZR 0), none] [] 41 σ
  refine zr_aload_n (pc := 0) hV dX12_line_0 rfl rfl ?_
  have t1 := zx_g14 hσ
  have t2 := zx_g3 hσ
  refine zr_callVi (pc := 1) hV [] (st := []) (c_X12_readLine2 (σ := σ) hσ (by omega) (by omega)) dX12_line_1 mX12_390 rfl (by decide) (by decide) (Nat.le_of_ble_eq_true rfl) (Nat.le_refl _) (fun r1 σ1 hr1 pσ1 => ?_)
  obtain ⟨hσ1, hfσ1, pσ1, wσ1⟩ := pσ1
  have hFσ1 : ∀ a i : Int, (¬ (a = 0 ∧ i = 14) ∧ ¬ (a = 0 ∧ i = 15) ∧ ¬ (a = 0 ∧ i = 16) ∧ a ≠ 19) → σ1 a i = σ a i := fun a i h => (hfσ1 a i ⟨h.2.1, h.2.2.1, h.2.2.2⟩)
  have t3 := zx_g14 hσ
  have t4 := zx_g3 hσ
  refine zr_istore_n (pc := 4) hV [some (ZR 0), some (ZI r1)] dX12_line_4 rfl (by decide) rfl rfl ?_
  refine zr_aload_n (pc := 5) hV dX12_line_5 rfl rfl ?_
  refine zr_iconst (pc := 6) hV 0 dX12_line_6 rfl ?_
  refine zr_putI (pc := 7) hV 14 dX12_line_7 fX12_197 rfl rfl rfl rfl (by decide) (fun σ7 eσ7 => ?_)
  have hσ7 : zx_T σ7 := zx_u14 eσ7 hσ1 (by omega)
  have hFσ7 : ∀ a i : Int, (¬ (a = 0 ∧ i = 14) ∧ ¬ (a = 0 ∧ i = 15) ∧ ¬ (a = 0 ∧ i = 16) ∧ a ≠ 19) → σ7 a i = σ a i := fun a i h => by rw [eσ7, zq_up_ne h.1]; exact hFσ1 a i h
  refine zr_iload_n (pc := 10) hV dX12_line_10 rfl rfl ?_
  refine zr_if_ge (pc := 11) hV 24 dX12_line_11 (by decide) (by omega) (fun c5 => ?_) (fun c5 => ?_)
  · show V 24 [some (ZR 0), some (ZI r1)] [] 41 σ7
    refine zr_aload_n (pc := 24) hV dX12_line_24 rfl rfl ?_
    refine zr_iload_n (pc := 25) hV dX12_line_25 rfl rfl ?_
    refine zr_callVp (pc := 26) hV [ZI r1] (st := []) (c_X12_bitsOf2 (σ := σ7) hσ7 r1 (by omega)) dX12_line_26 mX12_393 rfl (by decide) (by decide) (Nat.le_of_ble_eq_true rfl) (Nat.le_refl _) (fun r26 hr26 pr26 => ?_)
    have t6 := zx_g2 hσ7
    have t7 : σ7 0 2 = σ1 0 2 := by rw [eσ7]; exact zq_up_ne (by omega)
    have t8 : σ1 0 2 = σ 0 2 := hfσ1 _ _ (by omega)
    show V 29 [some (ZR 0), some (ZI r1)] [ZI r26] 41 σ7
    have t9 := zx_g14 hσ7
    have t10 : σ7 0 14 = 0 := by rw [eσ7]; exact zq_up_same _ _ _ _
    exact zr_iret (pc := 29) hV dX12_line_29 rfl rfl ⟨_, rfl, (by omega), hσ7, hFσ7, (by omega), (show ((∀ i, 0 ≤ i → i < σ 0 3 → σ 1 i ≠ (zt_nb (σ 10) (zt_z0 (σ 10) (σ 0 14)) (zt_n0 (σ 10) (σ 0 14)))) ∧ r26 = -20 - (zt_z0 (σ 10) (σ 0 14))) ∨ (∃ o, 0 ≤ o ∧ o < σ 0 3 ∧ σ 1 o = (zt_nb (σ 10) (zt_z0 (σ 10) (σ 0 14)) (zt_n0 (σ 10) (σ 0 14))) ∧ (∀ i, 0 ≤ i → i < o → σ 1 i ≠ (zt_nb (σ 10) (zt_z0 (σ 10) (σ 0 14)) (zt_n0 (σ 10) (σ 0 14)))) ∧ ∃ V : Int → Int, (∀ f, 0 ≤ f → f ≤ 3 → zu_rH σ o f = true → V f = zu_rlv σ o (σ 10) (σ 0 14) f) ∧ zu_la (zu_rln σ o (σ 10) (σ 0 14) 4) (σ 10) (σ 0 14) (zu_rbt σ o V (σ 0 2)) r26) from (wσ1.elim (fun ⟨a, b, c⟩ => absurd b (by omega)) (fun ⟨o, a, b, c, d, q1, q2⟩ => Or.inr ⟨o, a, b, c, d, σ7 19, fun f h0 h3 hH => by rw [show σ7 19 f = σ1 19 f by rw [eσ7, zq_up_ne (by omega)]]; by_cases hp : (zu_rln σ o (σ 10) (σ 0 14) 4).2 = true; by_cases hn : zt_nx (σ 10) (σ 0 14) (zu_rln σ o (σ 10) (σ 0 14) 4).1 = -1; exact ((q2 hp).2 hn).2 f h0 (by omega) hH; exact absurd ((q2 hp).1 hn).1 (by omega); exact absurd (q1 (Bool.eq_false_iff.mpr hp)).1 (by omega), ⟨fun h => absurd (q1 h).1 (by omega), fun h => ⟨fun h2 => absurd ((q2 h).1 h2).1 (by omega), fun h2 => by rw [pr26.2.2.2, ((q2 h).2 h2).1, show σ7 0 2 = σ 0 2 by rw [eσ7, zq_up_ne (by omega)]; exact hfσ1 0 2 (by omega)]; exact zu_rbt_fr (fun i => by rw [eσ7, zq_up_ne (by omega)]; exact hfσ1 2 i (by omega)) (by rw [eσ7, zq_up_ne (by omega)]; exact hfσ1 0 2 (by omega))⟩⟩⟩)))⟩
  · show V 14 [some (ZR 0), some (ZI r1)] [] 41 σ7
    refine zr_bipush (pc := 14) hV (-20) dX12_line_14 (by decide) ?_
    refine zr_aload_n (pc := 16) hV dX12_line_16 rfl rfl ?_
    refine zr_getI (pc := 17) hV 15 dX12_line_17 fX12_200 rfl rfl rfl (by decide) ?_
    have t11 := zx_g15 hσ7
    have t12 : σ7 0 15 = σ1 0 15 := by rw [eσ7]; exact zq_up_ne (by omega)
    refine zr_isub (pc := 20) hV dX12_line_20 ?_
    refine zr_goto (pc := 21) hV 29 dX12_line_21 (by decide) ?_
    show V 29 [some (ZR 0), some (ZI r1)] [ZI ((-20) - (σ7 0 15))] 41 σ7
    have t13 := zx_g14 hσ7
    have t14 : σ7 0 14 = 0 := by rw [eσ7]; exact zq_up_same _ _ _ _
    exact zr_iret (pc := 29) hV dX12_line_29 rfl rfl ⟨_, rfl, (by omega), hσ7, hFσ7, (by omega), (show ((∀ i, 0 ≤ i → i < σ 0 3 → σ 1 i ≠ (zt_nb (σ 10) (zt_z0 (σ 10) (σ 0 14)) (zt_n0 (σ 10) (σ 0 14)))) ∧ ((-20) - (σ7 0 15)) = -20 - (zt_z0 (σ 10) (σ 0 14))) ∨ (∃ o, 0 ≤ o ∧ o < σ 0 3 ∧ σ 1 o = (zt_nb (σ 10) (zt_z0 (σ 10) (σ 0 14)) (zt_n0 (σ 10) (σ 0 14))) ∧ (∀ i, 0 ≤ i → i < o → σ 1 i ≠ (zt_nb (σ 10) (zt_z0 (σ 10) (σ 0 14)) (zt_n0 (σ 10) (σ 0 14)))) ∧ ∃ V : Int → Int, (∀ f, 0 ≤ f → f ≤ 3 → zu_rH σ o f = true → V f = zu_rlv σ o (σ 10) (σ 0 14) f) ∧ zu_la (zu_rln σ o (σ 10) (σ 0 14) 4) (σ 10) (σ 0 14) (zu_rbt σ o V (σ 0 2)) ((-20) - (σ7 0 15))) from (wσ1.elim (fun ⟨a, b, c⟩ => Or.inl ⟨a, by omega⟩) (fun ⟨o, a, b, c, d, q1, q2⟩ => Or.inr ⟨o, a, b, c, d, zu_rlv σ o (σ 10) (σ 0 14), fun f _ _ _ => rfl, ⟨fun h => by have := q1 h; omega, fun h => ⟨fun h2 => by have := (q2 h).1 h2; omega, fun h2 => absurd ((q2 h).2 h2).1 (by omega)⟩⟩⟩)))⟩
