set_option maxHeartbeats 800000 in
theorem c_X12_isOrderOf2 {σ : zq_S} (hσ : zx_T σ) (order bits : Int) (q0 : 0 ≤ order ∧ order ≤ 20) (q1 : 0 ≤ bits ∧ bits ≤ 4095) : zq_C zx_w yX12_isOrderOf cX12_isOrderOf 6 (some .boolean) 0 0 41 41 [ZR 0, ZI order, ZI bits] σ (zq_pp σ (fun r => (r = 0 ∨ r = 1) ∧ zq_hid (r = 1 ↔ zt_is (zt_L σ order) (σ 0 2) bits))) := by
  refine zq_C_of (by decide) (Nat.le_refl _) (Nat.le_of_ble_eq_true rfl) [some (ZR 0), some (ZI order), some (ZI bits), none, none, none] rfl (fun V hV => ?_)
  have zb2 := zx_g2 hσ
  show V 0 [some (ZR 0), some (ZI order), some (ZI bits), none, none, none] [] 41 σ
  refine zr_iconst (pc := 0) hV 1 dX12_isOrderOf_0 rfl ?_
  refine zr_istore_n (pc := 1) hV [some (ZR 0), some (ZI order), some (ZI bits), some (ZI 1), none, none] dX12_isOrderOf_1 rfl (by decide) rfl rfl ?_
  refine zr_iconst (pc := 2) hV 0 dX12_isOrderOf_2 rfl ?_
  refine zr_istore (pc := 3) hV [some (ZR 0), some (ZI order), some (ZI bits), some (ZI 1), some (ZI 0), none] dX12_isOrderOf_3 (by decide) rfl rfl ?_
  have L5 : ∀ (fuel : Nat) (x3_5 : Int) (x4_5 : Int), (0 ≤ x3_5 ∧ x3_5 ≤ 1) → (0 ≤ x4_5 ∧ x4_5 ≤ 12) → (zq_hid ((x3_5 = 1 → (∀ i, 0 ≤ i → i < x4_5 → 1 < zt_L σ order i ∨ zt_L σ order i = zt_bi (σ 0 2) bits i)) ∧ (x3_5 = 0 → ¬ (∀ i, 0 ≤ i → i < x4_5 → 1 < zt_L σ order i ∨ zt_L σ order i = zt_bi (σ 0 2) bits i)))) → (x4_5 ≤ σ 0 2) → 12 - x4_5 < (fuel : Int) → V 5 [some (ZR 0), some (ZI order), some (ZI bits), some (ZI x3_5), some (ZI x4_5), none] [] 41 σ := by
    intro fuel
    induction fuel with
    | zero =>
      intro x3_5 x4_5 hx3_5 hx4_5 hi5_0 hi5_1 hm5
      exfalso; omega
    | succ fuel ih =>
      intro x3_5 x4_5 hx3_5 hx4_5 hi5_0 hi5_1 hm5
      have ih5 := ih
      show V 5 [some (ZR 0), some (ZI order), some (ZI bits), some (ZI x3_5), some (ZI x4_5), none] [] 41 σ
      refine zr_iload (pc := 5) hV dX12_isOrderOf_5 rfl ?_
      refine zr_aload_n (pc := 7) hV dX12_isOrderOf_7 rfl rfl ?_
      refine zr_getI (pc := 8) hV 2 dX12_isOrderOf_8 fX12_16 rfl rfl rfl (by decide) ?_
      have t1 := zx_g2 hσ
      refine zr_icmp_ge (pc := 11) hV 78 dX12_isOrderOf_11 (by decide) (by omega) (by omega) (fun c2 => ?_) (fun c2 => ?_)
      · show V 78 [some (ZR 0), some (ZI order), some (ZI bits), some (ZI x3_5), some (ZI x4_5), none] [] 41 σ
        refine zr_iload_n (pc := 78) hV dX12_isOrderOf_78 rfl rfl ?_
        exact zr_zret (pc := 79) hV dX12_isOrderOf_79 rfl rfl (by omega) ⟨rfl, _, rfl, (by omega), ⟨by omega, ⟨fun h i h0 h1 => hi5_0.1 h i h0 (by omega), fun h => by by_cases c : x3_5 = 1; exact c; exact absurd (fun i h0 h1 => h i h0 (by omega)) (hi5_0.2 (by omega))⟩⟩⟩
      · show V 14 [some (ZR 0), some (ZI order), some (ZI bits), some (ZI x3_5), some (ZI x4_5), none] [] 41 σ
        refine zr_iload_n (pc := 14) hV dX12_isOrderOf_14 rfl rfl ?_
        refine zr_aload_n (pc := 15) hV dX12_isOrderOf_15 rfl rfl ?_
        refine zr_getI (pc := 16) hV 2 dX12_isOrderOf_16 fX12_16 rfl rfl rfl (by decide) ?_
        have t3 := zx_g2 hσ
        refine zr_iconst (pc := 19) hV 1 dX12_isOrderOf_19 rfl ?_
        refine zr_isub (pc := 20) hV dX12_isOrderOf_20 ?_
        refine zr_iload (pc := 21) hV dX12_isOrderOf_21 rfl ?_
        refine zr_isub (pc := 23) hV dX12_isOrderOf_23 ?_
        refine zr_ishr (pc := 24) hV dX12_isOrderOf_24 ?_
        have t4 := zq_shr_nn (x := bits) (y := ((σ 0 2) - 1) - x4_5) (by omega)
        refine zr_iconst (pc := 25) hV 1 dX12_isOrderOf_25 rfl ?_
        refine zr_iand (pc := 26) hV dX12_isOrderOf_26 ?_
        have t5 := zq_and_mask (zq_shr bits (((σ 0 2) - 1) - x4_5)) 1 1 2 (by decide) (by decide) (by decide)
        refine zr_istore (pc := 27) hV [some (ZR 0), some (ZI order), some (ZI bits), some (ZI x3_5), some (ZI x4_5), some (ZI (zq_and (zq_shr bits (((σ 0 2) - 1) - x4_5)) 1))] dX12_isOrderOf_27 (by decide) rfl rfl ?_
        have zL1 : zt_L σ order x4_5 = σ 2 (12 * order + x4_5) := rfl
        have zB1 : zt_bi (σ 0 2) bits x4_5 = zq_and (zq_shr bits ((σ 0 2) - 1 - x4_5)) 1 := rfl
        refine zr_iload_n (pc := 29) hV dX12_isOrderOf_29 rfl rfl ?_
        refine zr_if_eq (pc := 30) hV 70 dX12_isOrderOf_30 (by decide) (by omega) (fun c6 => ?_) (fun c6 => ?_)
        · show V 70 [some (ZR 0), some (ZI order), some (ZI bits), some (ZI x3_5), some (ZI x4_5), some (ZI (zq_and (zq_shr bits (((σ 0 2) - 1) - x4_5)) 1))] [] 41 σ
          refine zr_iconst (pc := 70) hV 0 dX12_isOrderOf_70 rfl ?_
          show V 71 [some (ZR 0), some (ZI order), some (ZI bits), some (ZI x3_5), some (ZI x4_5), some (ZI (zq_and (zq_shr bits (((σ 0 2) - 1) - x4_5)) 1))] [ZI 0] 41 σ
          refine zr_istore_n (pc := 71) hV [some (ZR 0), some (ZI order), some (ZI bits), some (ZI 0), some (ZI x4_5), some (ZI (zq_and (zq_shr bits (((σ 0 2) - 1) - x4_5)) 1))] dX12_isOrderOf_71 rfl (by decide) rfl rfl ?_
          refine zr_iinc (pc := 72) hV [some (ZR 0), some (ZI order), some (ZI bits), some (ZI 0), some (ZI (x4_5 + 1)), some (ZI (zq_and (zq_shr bits (((σ 0 2) - 1) - x4_5)) 1))] (x4_5 + 1) dX12_isOrderOf_72 rfl rfl (by decide) rfl rfl ?_
          refine zr_goto (pc := 75) hV 5 dX12_isOrderOf_75 (by decide) ?_
          have t7 := zx_g2 hσ
          have t8 := zx_g2 hσ
          refine zr_sub (pc := 5) hV [some (ZR 0), some (ZI order), some (ZI bits), some (ZI 0), some (ZI (x4_5 + 1)), none] (⟨rfl, rfl, rfl, rfl, rfl, trivial⟩) ?_
          exact ih5 0 (x4_5 + 1) (by omega) (by omega) ⟨fun h => absurd h (by omega), fun _ q => by first | exact absurd (q x4_5 (by omega) (by omega)) (by omega) | exact hi5_0.2 (by omega) (fun i h0 h1 => q i h0 (by omega))⟩ (by omega) (by omega)
        · show V 33 [some (ZR 0), some (ZI order), some (ZI bits), some (ZI x3_5), some (ZI x4_5), some (ZI (zq_and (zq_shr bits (((σ 0 2) - 1) - x4_5)) 1))] [] 41 σ
          refine zr_aload_n (pc := 33) hV dX12_isOrderOf_33 rfl rfl ?_
          refine zr_getR (pc := 34) hV 5 2 dX12_isOrderOf_34 fX12_23 rfl rfl rfl (by decide) (zx_g5 hσ) (by omega) ?_
          refine zr_bipush (pc := 37) hV 12 dX12_isOrderOf_37 (by decide) ?_
          refine zr_iload_n (pc := 39) hV dX12_isOrderOf_39 rfl rfl ?_
          refine zr_imul (pc := 40) hV dX12_isOrderOf_40 ?_
          refine zr_iload (pc := 41) hV dX12_isOrderOf_41 rfl ?_
          refine zr_iadd (pc := 43) hV dX12_isOrderOf_43 ?_
          refine zr_iald (pc := 44) hV dX12_isOrderOf_44 rfl (by decide) rfl (by omega) ?_
          have t9 := zx_ga2 hσ ((12 * order) + x4_5)
          refine zr_iconst (pc := 45) hV 1 dX12_isOrderOf_45 rfl ?_
          refine zr_icmp_gt (pc := 46) hV 66 dX12_isOrderOf_46 (by decide) (by omega) ⟨by decide, by decide⟩ (fun c10 => ?_) (fun c10 => ?_)
          · show V 66 [some (ZR 0), some (ZI order), some (ZI bits), some (ZI x3_5), some (ZI x4_5), some (ZI (zq_and (zq_shr bits (((σ 0 2) - 1) - x4_5)) 1))] [] 41 σ
            refine zr_iconst (pc := 66) hV 1 dX12_isOrderOf_66 rfl ?_
            refine zr_goto (pc := 67) hV 71 dX12_isOrderOf_67 (by decide) ?_
            show V 71 [some (ZR 0), some (ZI order), some (ZI bits), some (ZI x3_5), some (ZI x4_5), some (ZI (zq_and (zq_shr bits (((σ 0 2) - 1) - x4_5)) 1))] [ZI 1] 41 σ
            refine zr_istore_n (pc := 71) hV [some (ZR 0), some (ZI order), some (ZI bits), some (ZI 1), some (ZI x4_5), some (ZI (zq_and (zq_shr bits (((σ 0 2) - 1) - x4_5)) 1))] dX12_isOrderOf_71 rfl (by decide) rfl rfl ?_
            refine zr_iinc (pc := 72) hV [some (ZR 0), some (ZI order), some (ZI bits), some (ZI 1), some (ZI (x4_5 + 1)), some (ZI (zq_and (zq_shr bits (((σ 0 2) - 1) - x4_5)) 1))] (x4_5 + 1) dX12_isOrderOf_72 rfl rfl (by decide) rfl rfl ?_
            refine zr_goto (pc := 75) hV 5 dX12_isOrderOf_75 (by decide) ?_
            have t11 := zx_g2 hσ
            have t12 := zx_g2 hσ
            refine zr_sub (pc := 5) hV [some (ZR 0), some (ZI order), some (ZI bits), some (ZI 1), some (ZI (x4_5 + 1)), none] (⟨rfl, rfl, rfl, rfl, rfl, trivial⟩) ?_
            exact ih5 1 (x4_5 + 1) (by omega) (by omega) ⟨fun _ i h0 h1 => if hc : i = x4_5 then (by rw [hc]; omega) else hi5_0.1 (by omega) i h0 (by omega), fun h => absurd h (by omega)⟩ (by omega) (by omega)
          · show V 49 [some (ZR 0), some (ZI order), some (ZI bits), some (ZI x3_5), some (ZI x4_5), some (ZI (zq_and (zq_shr bits (((σ 0 2) - 1) - x4_5)) 1))] [] 41 σ
            refine zr_aload_n (pc := 49) hV dX12_isOrderOf_49 rfl rfl ?_
            refine zr_getR (pc := 50) hV 5 2 dX12_isOrderOf_50 fX12_23 rfl rfl rfl (by decide) (zx_g5 hσ) (by omega) ?_
            refine zr_bipush (pc := 53) hV 12 dX12_isOrderOf_53 (by decide) ?_
            refine zr_iload_n (pc := 55) hV dX12_isOrderOf_55 rfl rfl ?_
            refine zr_imul (pc := 56) hV dX12_isOrderOf_56 ?_
            refine zr_iload (pc := 57) hV dX12_isOrderOf_57 rfl ?_
            refine zr_iadd (pc := 59) hV dX12_isOrderOf_59 ?_
            refine zr_iald (pc := 60) hV dX12_isOrderOf_60 rfl (by decide) rfl (by omega) ?_
            have t13 := zx_ga2 hσ ((12 * order) + x4_5)
            refine zr_iload (pc := 61) hV dX12_isOrderOf_61 rfl ?_
            refine zr_icmp_ne (pc := 63) hV 70 dX12_isOrderOf_63 (by decide) (by omega) (by omega) (fun c14 => ?_) (fun c14 => ?_)
            · show V 70 [some (ZR 0), some (ZI order), some (ZI bits), some (ZI x3_5), some (ZI x4_5), some (ZI (zq_and (zq_shr bits (((σ 0 2) - 1) - x4_5)) 1))] [] 41 σ
              refine zr_iconst (pc := 70) hV 0 dX12_isOrderOf_70 rfl ?_
              show V 71 [some (ZR 0), some (ZI order), some (ZI bits), some (ZI x3_5), some (ZI x4_5), some (ZI (zq_and (zq_shr bits (((σ 0 2) - 1) - x4_5)) 1))] [ZI 0] 41 σ
              refine zr_istore_n (pc := 71) hV [some (ZR 0), some (ZI order), some (ZI bits), some (ZI 0), some (ZI x4_5), some (ZI (zq_and (zq_shr bits (((σ 0 2) - 1) - x4_5)) 1))] dX12_isOrderOf_71 rfl (by decide) rfl rfl ?_
              refine zr_iinc (pc := 72) hV [some (ZR 0), some (ZI order), some (ZI bits), some (ZI 0), some (ZI (x4_5 + 1)), some (ZI (zq_and (zq_shr bits (((σ 0 2) - 1) - x4_5)) 1))] (x4_5 + 1) dX12_isOrderOf_72 rfl rfl (by decide) rfl rfl ?_
              refine zr_goto (pc := 75) hV 5 dX12_isOrderOf_75 (by decide) ?_
              have t15 := zx_g2 hσ
              have t16 := zx_g2 hσ
              refine zr_sub (pc := 5) hV [some (ZR 0), some (ZI order), some (ZI bits), some (ZI 0), some (ZI (x4_5 + 1)), none] (⟨rfl, rfl, rfl, rfl, rfl, trivial⟩) ?_
              exact ih5 0 (x4_5 + 1) (by omega) (by omega) ⟨fun h => absurd h (by omega), fun _ q => by first | exact absurd (q x4_5 (by omega) (by omega)) (by omega) | exact hi5_0.2 (by omega) (fun i h0 h1 => q i h0 (by omega))⟩ (by omega) (by omega)
            · show V 66 [some (ZR 0), some (ZI order), some (ZI bits), some (ZI x3_5), some (ZI x4_5), some (ZI (zq_and (zq_shr bits (((σ 0 2) - 1) - x4_5)) 1))] [] 41 σ
              refine zr_iconst (pc := 66) hV 1 dX12_isOrderOf_66 rfl ?_
              refine zr_goto (pc := 67) hV 71 dX12_isOrderOf_67 (by decide) ?_
              show V 71 [some (ZR 0), some (ZI order), some (ZI bits), some (ZI x3_5), some (ZI x4_5), some (ZI (zq_and (zq_shr bits (((σ 0 2) - 1) - x4_5)) 1))] [ZI 1] 41 σ
              refine zr_istore_n (pc := 71) hV [some (ZR 0), some (ZI order), some (ZI bits), some (ZI 1), some (ZI x4_5), some (ZI (zq_and (zq_shr bits (((σ 0 2) - 1) - x4_5)) 1))] dX12_isOrderOf_71 rfl (by decide) rfl rfl ?_
              refine zr_iinc (pc := 72) hV [some (ZR 0), some (ZI order), some (ZI bits), some (ZI 1), some (ZI (x4_5 + 1)), some (ZI (zq_and (zq_shr bits (((σ 0 2) - 1) - x4_5)) 1))] (x4_5 + 1) dX12_isOrderOf_72 rfl rfl (by decide) rfl rfl ?_
              refine zr_goto (pc := 75) hV 5 dX12_isOrderOf_75 (by decide) ?_
              have t17 := zx_g2 hσ
              have t18 := zx_g2 hσ
              refine zr_sub (pc := 5) hV [some (ZR 0), some (ZI order), some (ZI bits), some (ZI 1), some (ZI (x4_5 + 1)), none] (⟨rfl, rfl, rfl, rfl, rfl, trivial⟩) ?_
              exact ih5 1 (x4_5 + 1) (by omega) (by omega) ⟨fun _ i h0 h1 => if hc : i = x4_5 then (by rw [hc]; omega) else hi5_0.1 (by omega) i h0 (by omega), fun h => absurd h (by omega)⟩ (by omega) (by omega)
  have t19 := zx_g2 hσ
  have t20 := zx_g2 hσ
  exact L5 (12 - (0 : Int) + 1 : Int).toNat 1 0 (by omega) (by omega) ⟨fun _ i h0 h1 => absurd h1 (by omega), fun h => absurd h (by omega)⟩ (by omega) (by omega)
set_option maxHeartbeats 800000 in
theorem c_X12_orderOf2 {σ : zq_S} (hσ : zx_T σ) (bits : Int) (q0 : 0 ≤ bits ∧ bits ≤ 4095) : zq_C zx_w yX12_orderOf cX12_orderOf 3 (some .int) 1 25 41 41 [ZR 0, ZI bits] σ (zq_pp σ (fun r => -4 ≤ r ∧ r < 20 ∧ (0 ≤ r → r < σ 0 3) ∧ zq_hid (zt_ow σ bits r))) := by
  refine zq_C_of (by decide) (Nat.le_refl _) (Nat.le_of_ble_eq_true rfl) [some (ZR 0), some (ZI bits), none] rfl (fun V hV => ?_)
  show V 0 [some (ZR 0), some (ZI bits), none] [] 41 σ
  refine zr_iconst (pc := 0) hV 0 dX12_orderOf_0 rfl ?_
  refine zr_istore_n (pc := 1) hV [some (ZR 0), some (ZI bits), some (ZI 0)] dX12_orderOf_1 rfl (by decide) rfl rfl ?_
  have L2 : ∀ (fuel : Nat) (x2_2 : Int), (0 ≤ x2_2 ∧ x2_2 ≤ 20) → (zq_hid (∀ o, 0 ≤ o → o < x2_2 → ¬ zt_is (zt_L σ o) (σ 0 2) bits)) → 20 - x2_2 < (fuel : Int) → V 2 [some (ZR 0), some (ZI bits), some (ZI x2_2)] [] 41 σ := by
    intro fuel
    induction fuel with
    | zero =>
      intro x2_2 hx2_2 hi2_0 hm2
      exfalso; omega
    | succ fuel ih =>
      intro x2_2 hx2_2 hi2_0 hm2
      have ih2 := ih
      show V 2 [some (ZR 0), some (ZI bits), some (ZI x2_2)] [] 41 σ
      refine zr_iload_n (pc := 2) hV dX12_orderOf_2 rfl rfl ?_
      refine zr_aload_n (pc := 3) hV dX12_orderOf_3 rfl rfl ?_
      refine zr_getI (pc := 4) hV 3 dX12_orderOf_4 fX12_150 rfl rfl rfl (by decide) ?_
      have t1 := zx_g3 hσ
      refine zr_icmp_ge (pc := 7) hV 27 dX12_orderOf_7 (by decide) (by omega) (by omega) (fun c2 => ?_) (fun c2 => ?_)
      · show V 27 [some (ZR 0), some (ZI bits), some (ZI x2_2)] [] 41 σ
        refine zr_bipush (pc := 27) hV (-4) dX12_orderOf_27 (by decide) ?_
        exact zr_iret (pc := 29) hV dX12_orderOf_29 rfl rfl ⟨rfl, _, rfl, ⟨by decide, by decide⟩, ⟨by omega, by omega, by omega, ⟨fun _ => ⟨rfl, fun o h0 h1 => hi2_0 o h0 (by omega)⟩, fun h => absurd h (by omega)⟩⟩⟩
      · show V 10 [some (ZR 0), some (ZI bits), some (ZI x2_2)] [] 41 σ
        refine zr_aload_n (pc := 10) hV dX12_orderOf_10 rfl rfl ?_
        refine zr_iload_n (pc := 11) hV dX12_orderOf_11 rfl rfl ?_
        refine zr_iload_n (pc := 12) hV dX12_orderOf_12 rfl rfl ?_
        refine zr_callVp (pc := 13) hV [ZI x2_2, ZI bits] (st := []) (c_X12_isOrderOf2 (σ := σ) hσ x2_2 bits (by omega) (by omega)) dX12_orderOf_13 mX12_180 rfl (by decide) (by decide) (Nat.le_of_ble_eq_true rfl) (Nat.le_refl _) (fun r13 hr13 pr13 => ?_)
        have t3 := zx_g2 hσ
        refine zr_if_eq (pc := 16) hV 21 dX12_orderOf_16 (by decide) (by omega) (fun c4 => ?_) (fun c4 => ?_)
        · show V 21 [some (ZR 0), some (ZI bits), some (ZI x2_2)] [] 41 σ
          refine zr_iinc (pc := 21) hV [some (ZR 0), some (ZI bits), some (ZI (x2_2 + 1))] (x2_2 + 1) dX12_orderOf_21 rfl rfl (by decide) rfl rfl ?_
          refine zr_goto (pc := 24) hV 2 dX12_orderOf_24 (by decide) ?_
          have t5 := zx_g2 hσ
          exact ih2 (x2_2 + 1) (by omega) (fun o h0 h1 => if hc : o = x2_2 then (by rw [hc]; exact fun q => absurd (pr13.2.mpr q) (by omega)) else hi2_0 o h0 (by omega)) (by omega)
        · show V 19 [some (ZR 0), some (ZI bits), some (ZI x2_2)] [] 41 σ
          refine zr_iload_n (pc := 19) hV dX12_orderOf_19 rfl rfl ?_
          exact zr_iret (pc := 20) hV dX12_orderOf_20 rfl rfl ⟨rfl, _, rfl, (by omega), ⟨by omega, by omega, by omega, ⟨fun h => absurd h (by omega), fun _ => ⟨by omega, pr13.2.mp (by omega), hi2_0⟩⟩⟩⟩
  have t6 := zx_g2 hσ
  exact L2 (20 - (0 : Int) + 1 : Int).toNat 0 (by omega) (fun o h0 h1 => absurd h1 (by omega)) (by omega)
set_option maxHeartbeats 800000 in
theorem c_X12_ownerOf2 {σ : zq_S} (hσ : zx_T σ) (bits : Int) (q0 : 0 ≤ bits ∧ bits ≤ 4095) (q1 : zx_M σ) (q2 : zx_W σ) : zq_C zx_w yX12_ownerOf cX12_ownerOf 3 (some .int) 2 47 41 41 [ZR 0, ZI bits] σ (zq_pi (fun r τ => zx_T τ ∧ (∀ a i : Int, (¬ (a = 0 ∧ i = 30) ∧ a ≠ 18) → τ a i = σ a i) ∧ (-4 ≤ r ∧ r ≤ 19 ∧ r = τ 18 bits ∧ τ 0 30 = 1 ∧ (σ 0 30 = 1 → ∀ i, τ 18 i = σ 18 i) ∧ zx_M τ ∧ zx_W τ))) := by
  refine zq_C_of (by decide) (Nat.le_refl _) (Nat.le_of_ble_eq_true rfl) [some (ZR 0), some (ZI bits), none] rfl (fun V hV => ?_)
  have z2 := zx_g2 hσ
  have z3 := zx_g3 hσ
  have zle := zx_p2_le (m := σ 0 2) (n := 12) (by omega)
  have z12 := zx_p2_12
  show V 0 [some (ZR 0), some (ZI bits), none] [] 41 σ
  refine zr_aload_n (pc := 0) hV dX12_ownerOf_0 rfl rfl ?_
  refine zr_getI (pc := 1) hV 30 dX12_ownerOf_1 fX12_153 rfl rfl rfl (by decide) ?_
  have t1 := zx_g30 hσ
  refine zr_if_ne (pc := 4) hV 41 dX12_ownerOf_4 (by decide) (by omega) (fun c2 => ?_) (fun c2 => ?_)
  · show V 41 [some (ZR 0), some (ZI bits), none] [] 41 σ
    refine zr_aload_n (pc := 41) hV dX12_ownerOf_41 rfl rfl ?_
    refine zr_getR (pc := 42) hV 31 18 dX12_ownerOf_42 fX12_75 rfl rfl rfl (by decide) (zx_g31 hσ) (by omega) ?_
    refine zr_iload_n (pc := 45) hV dX12_ownerOf_45 rfl rfl ?_
    refine zr_iald (pc := 46) hV dX12_ownerOf_46 rfl (by decide) rfl (by omega) ?_
    have t3 := zx_ga18 hσ bits
    have t4 := zx_g30 hσ
    exact zr_iret (pc := 47) hV dX12_ownerOf_47 rfl rfl ⟨_, rfl, (by omega), hσ, (fun a i _ => rfl), ⟨by omega, by omega, rfl, by omega, fun _ _ => rfl, q1, q2⟩⟩
  · show V 7 [some (ZR 0), some (ZI bits), none] [] 41 σ
    refine zr_aload_n (pc := 7) hV dX12_ownerOf_7 rfl rfl ?_
    refine zr_iconst (pc := 8) hV 1 dX12_ownerOf_8 rfl ?_
    refine zr_putZ (pc := 9) hV 30 dX12_ownerOf_9 fX12_153 rfl rfl rfl (by omega) rfl (by decide) (fun σ9 eσ9 => ?_)
    have hσ9 : zx_T σ9 := zx_u30 eσ9 hσ (by omega)
    have hFσ9 : ∀ a i : Int, (¬ (a = 0 ∧ i = 30) ∧ a ≠ 18) → σ9 a i = σ a i := fun a i h => by rw [eσ9, zq_up_ne h.1]
    refine zr_iconst (pc := 12) hV 0 dX12_ownerOf_12 rfl ?_
    refine zr_istore_n (pc := 13) hV [some (ZR 0), some (ZI bits), some (ZI 0)] dX12_ownerOf_13 rfl (by decide) rfl rfl ?_
    have L14 : ∀ (fuel : Nat) (x2_14 : Int) (σ_14 : zq_S), (0 ≤ x2_14 ∧ x2_14 ≤ 4096) → (zx_T σ_14) → (∀ a i : Int, (¬ (a = 0 ∧ i = 30) ∧ a ≠ 18) → σ_14 a i = σ a i) → (∀ n, 0 ≤ n → n < x2_14 → σ_14 18 n < σ 0 3) → (σ_14 0 30 = 1) → (zq_hid (∀ n, 0 ≤ n → n < x2_14 → zt_ow σ n (σ_14 18 n))) → 4096 - x2_14 < (fuel : Int) → V 14 [some (ZR 0), some (ZI bits), some (ZI x2_14)] [] 41 σ_14 := by
      intro fuel
      induction fuel with
      | zero =>
        intro x2_14 σ_14 hx2_14 hσ_14 hFσ_14 hi14_0 hi14_1 hi14_2 hm14
        exfalso; omega
      | succ fuel ih =>
        intro x2_14 σ_14 hx2_14 hσ_14 hFσ_14 hi14_0 hi14_1 hi14_2 hm14
        have ih14 := ih
        show V 14 [some (ZR 0), some (ZI bits), some (ZI x2_14)] [] 41 σ_14
        refine zr_iload_n (pc := 14) hV dX12_ownerOf_14 rfl rfl ?_
        refine zr_iconst (pc := 15) hV 1 dX12_ownerOf_15 rfl ?_
        refine zr_aload_n (pc := 16) hV dX12_ownerOf_16 rfl rfl ?_
        refine zr_getI (pc := 17) hV 2 dX12_ownerOf_17 fX12_16 rfl rfl rfl (by decide) ?_
        have t5 := zx_g2 hσ_14
        have t6 : σ_14 0 2 = σ 0 2 := hFσ_14 _ _ (by omega)
        refine zr_ishl (pc := 20) hV dX12_ownerOf_20 ?_
        have t7 := zx_shl_one (y := σ_14 0 2) 12 4096 (by decide) (by decide) (by omega)
        refine zr_icmp_ge (pc := 21) hV 41 dX12_ownerOf_21 (by decide) (by omega) (by omega) (fun c8 => ?_) (fun c8 => ?_)
        · show V 41 [some (ZR 0), some (ZI bits), some (ZI x2_14)] [] 41 σ_14
          refine zr_aload_n (pc := 41) hV dX12_ownerOf_41 rfl rfl ?_
          refine zr_getR (pc := 42) hV 31 18 dX12_ownerOf_42 fX12_75 rfl rfl rfl (by decide) (zx_g31 hσ_14) (by omega) ?_
          refine zr_iload_n (pc := 45) hV dX12_ownerOf_45 rfl rfl ?_
          refine zr_iald (pc := 46) hV dX12_ownerOf_46 rfl (by decide) rfl (by omega) ?_
          have t9 := zx_ga18 hσ_14 bits
          have t10 := zx_g30 hσ_14
          exact zr_iret (pc := 47) hV dX12_ownerOf_47 rfl rfl ⟨_, rfl, (by omega), hσ_14, hFσ_14, ⟨by omega, by omega, rfl, by omega, fun h => absurd h (by omega), fun _ n h1 h2 => (by rw [hFσ_14 0 3 (by omega)]; exact hi14_0 n h1 (by omega)), fun _ n h1 h2 => zt_ow_fr (fun i => hFσ_14 2 i (by omega)) (hFσ_14 0 3 (by omega)) (hFσ_14 0 2 (by omega)) (hi14_2 n h1 (by omega))⟩⟩
        · show V 24 [some (ZR 0), some (ZI bits), some (ZI x2_14)] [] 41 σ_14
          have zsx := hFσ_14 0 2 (by omega)
          refine zr_aload_n (pc := 24) hV dX12_ownerOf_24 rfl rfl ?_
          refine zr_getR (pc := 25) hV 31 18 dX12_ownerOf_25 fX12_75 rfl rfl rfl (by decide) (zx_g31 hσ_14) (by omega) ?_
          refine zr_iload_n (pc := 28) hV dX12_ownerOf_28 rfl rfl ?_
          refine zr_aload_n (pc := 29) hV dX12_ownerOf_29 rfl rfl ?_
          refine zr_iload_n (pc := 30) hV dX12_ownerOf_30 rfl rfl ?_
          refine zr_callVp (pc := 31) hV [ZI x2_14] (st := [ZI x2_14, ZR 18]) (c_X12_orderOf2 (σ := σ_14) hσ_14 x2_14 (by omega)) dX12_ownerOf_31 mX12_286 rfl (by decide) (by decide) (Nat.le_of_ble_eq_true rfl) (Nat.le_refl _) (fun r31 hr31 pr31 => ?_)
          have t11 := zx_g3 hσ_14
          have t12 : σ_14 0 3 = σ 0 3 := hFσ_14 _ _ (by omega)
          refine zr_iast (pc := 34) hV dX12_ownerOf_34 rfl (by decide) rfl (by omega) (fun σ34 eσ34 => ?_)
          have hσ34 : zx_T σ34 := zx_ua18 eσ34 hσ_14 (by omega)
          have hFσ34 : ∀ a i : Int, (¬ (a = 0 ∧ i = 30) ∧ a ≠ 18) → σ34 a i = σ a i := fun a i h => by rw [eσ34, zq_up_ne (fun q => h.2 q.1)]; exact hFσ_14 a i h
          refine zr_iinc (pc := 35) hV [some (ZR 0), some (ZI bits), some (ZI (x2_14 + 1))] (x2_14 + 1) dX12_ownerOf_35 rfl rfl (by decide) rfl rfl ?_
          refine zr_goto (pc := 38) hV 14 dX12_ownerOf_38 (by decide) ?_
          have t13 := zx_g30 hσ34
          have t14 : σ34 0 30 = σ_14 0 30 := by rw [eσ34]; exact zq_up_ne (by omega)
          exact ih14 (x2_14 + 1) σ34 (by omega) hσ34 hFσ34 (fun n h1 h2 => if hc : n = x2_14 then (by rw [hc, eσ34, zq_up_same]; have := hFσ_14 0 3 (by omega); omega) else (by rw [eσ34, zq_up_ne (by omega)]; exact hi14_0 n h1 (by omega))) (by omega) (fun n h1 h2 => if hc : n = x2_14 then (by rw [hc, eσ34, zq_up_same]; exact zt_ow_fr (fun i => (hFσ_14 2 i (by omega)).symm) (hFσ_14 0 3 (by omega)).symm (hFσ_14 0 2 (by omega)).symm pr31.2.2.2) else (by rw [eσ34, zq_up_ne (by omega)]; exact hi14_2 n h1 (by omega))) (by omega)
    have t15 := zx_g30 hσ9
    have t16 : σ9 0 30 = 1 := by rw [eσ9]; exact zq_up_same _ _ _ _
    exact L14 (4096 - (0 : Int) + 1 : Int).toNat 0 σ9 (by omega) hσ9 hFσ9 (fun n h1 h2 => absurd h2 (by omega)) (by omega) (fun n h1 h2 => absurd h2 (by omega)) (by omega)
