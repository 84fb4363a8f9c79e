set_option maxHeartbeats 800000 in
theorem c_X12_shared2 {σ : zq_S} (hσ : zx_T σ)  : zq_C zx_w yX12_shared cX12_shared 1 (some .int) 0 0 41 41 [ZR 0] σ (zq_pp σ (fun r => r = σ 0 18)) := by
  refine zq_C_of (by decide) (Nat.le_refl _) (Nat.le_of_ble_eq_true rfl) [some (ZR 0)] rfl (fun V hV => ?_)
  show V 0 [some (ZR 0)] [] 41 σ
  refine zr_aload_n (pc := 0) hV dX12_shared_0 rfl rfl ?_
  refine zr_getI (pc := 1) hV 18 dX12_shared_1 fX12_157 rfl rfl rfl (by decide) ?_
  have t1 := zx_g18 hσ
  exact zr_iret (pc := 4) hV dX12_shared_4 rfl rfl ⟨rfl, _, rfl, (by omega), (by omega)⟩
set_option maxHeartbeats 800000 in
theorem c_X12_count2 {σ : zq_S} (hσ : zx_T σ) (what : Int) (q0 : zq_in what) : zq_C zx_w yX12_count cX12_count 2 (some .int) 0 0 41 41 [ZR 0, ZI what] σ (zq_pp σ (fun r => (what = 0 → r = σ 0 3) ∧ (what = 1 → r = zx_p2 (σ 0 1)) ∧ (what = 2 → r = zx_p2 (σ 0 0)) ∧ (what = 3 → r = σ 0 35) ∧ (what = 4 → r = σ 0 29) ∧ (¬ (0 ≤ what ∧ what ≤ 4) → r = -1))) := by
  refine zq_C_of (by decide) (Nat.le_refl _) (Nat.le_of_ble_eq_true rfl) [some (ZR 0), some (ZI what)] rfl (fun V hV => ?_)
  show V 0 [some (ZR 0), some (ZI what)] [] 41 σ
  refine zr_iload_n (pc := 0) hV dX12_count_0 rfl rfl ?_
  refine zr_if_ne (pc := 1) hV 11 dX12_count_1 (by decide) (by omega) (fun c1 => ?_) (fun c1 => ?_)
  · show V 11 [some (ZR 0), some (ZI what)] [] 41 σ
    refine zr_iload_n (pc := 11) hV dX12_count_11 rfl rfl ?_
    refine zr_iconst (pc := 12) hV 1 dX12_count_12 rfl ?_
    refine zr_icmp_ne (pc := 13) hV 25 dX12_count_13 (by decide) (by omega) ⟨by decide, by decide⟩ (fun c2 => ?_) (fun c2 => ?_)
    · show V 25 [some (ZR 0), some (ZI what)] [] 41 σ
      refine zr_iload_n (pc := 25) hV dX12_count_25 rfl rfl ?_
      refine zr_iconst (pc := 26) hV 2 dX12_count_26 rfl ?_
      refine zr_icmp_ne (pc := 27) hV 39 dX12_count_27 (by decide) (by omega) ⟨by decide, by decide⟩ (fun c3 => ?_) (fun c3 => ?_)
      · show V 39 [some (ZR 0), some (ZI what)] [] 41 σ
        refine zr_iload_n (pc := 39) hV dX12_count_39 rfl rfl ?_
        refine zr_iconst (pc := 40) hV 3 dX12_count_40 rfl ?_
        refine zr_icmp_ne (pc := 41) hV 51 dX12_count_41 (by decide) (by omega) ⟨by decide, by decide⟩ (fun c4 => ?_) (fun c4 => ?_)
        · show V 51 [some (ZR 0), some (ZI what)] [] 41 σ
          refine zr_iload_n (pc := 51) hV dX12_count_51 rfl rfl ?_
          refine zr_iconst (pc := 52) hV 4 dX12_count_52 rfl ?_
          refine zr_icmp_ne (pc := 53) hV 63 dX12_count_53 (by decide) (by omega) ⟨by decide, by decide⟩ (fun c5 => ?_) (fun c5 => ?_)
          · show V 63 [some (ZR 0), some (ZI what)] [] 41 σ
            refine zr_iconst (pc := 63) hV (-1) dX12_count_63 rfl ?_
            show V 64 [some (ZR 0), some (ZI what)] [ZI (-1)] 41 σ
            exact zr_iret (pc := 64) hV dX12_count_64 rfl rfl ⟨rfl, _, rfl, ⟨by decide, by decide⟩, (by omega)⟩
          · show V 56 [some (ZR 0), some (ZI what)] [] 41 σ
            refine zr_aload_n (pc := 56) hV dX12_count_56 rfl rfl ?_
            refine zr_getI (pc := 57) hV 29 dX12_count_57 fX12_72 rfl rfl rfl (by decide) ?_
            have t6 := zx_g29 hσ
            refine zr_goto (pc := 60) hV 64 dX12_count_60 (by decide) ?_
            show V 64 [some (ZR 0), some (ZI what)] [ZI (σ 0 29)] 41 σ
            exact zr_iret (pc := 64) hV dX12_count_64 rfl rfl ⟨rfl, _, rfl, (by omega), (by omega)⟩
        · show V 44 [some (ZR 0), some (ZI what)] [] 41 σ
          refine zr_aload_n (pc := 44) hV dX12_count_44 rfl rfl ?_
          refine zr_getI (pc := 45) hV 35 dX12_count_45 fX12_84 rfl rfl rfl (by decide) ?_
          have t7 := zx_g35 hσ
          refine zr_goto (pc := 48) hV 64 dX12_count_48 (by decide) ?_
          show V 64 [some (ZR 0), some (ZI what)] [ZI (σ 0 35)] 41 σ
          exact zr_iret (pc := 64) hV dX12_count_64 rfl rfl ⟨rfl, _, rfl, (by omega), (by omega)⟩
      · show V 30 [some (ZR 0), some (ZI what)] [] 41 σ
        refine zr_iconst (pc := 30) hV 1 dX12_count_30 rfl ?_
        refine zr_aload_n (pc := 31) hV dX12_count_31 rfl rfl ?_
        refine zr_getI (pc := 32) hV 0 dX12_count_32 fX12_7 rfl rfl rfl (by decide) ?_
        have t8 := zx_g0 hσ
        refine zr_ishl (pc := 35) hV dX12_count_35 ?_
        have t9 := zx_shl_one (y := σ 0 0) 8 256 (by decide) (by decide) (by omega)
        refine zr_goto (pc := 36) hV 64 dX12_count_36 (by decide) ?_
        show V 64 [some (ZR 0), some (ZI what)] [ZI (zq_shl 1 (σ 0 0))] 41 σ
        exact zr_iret (pc := 64) hV dX12_count_64 rfl rfl ⟨rfl, _, rfl, (by omega), (by omega)⟩
    · show V 16 [some (ZR 0), some (ZI what)] [] 41 σ
      refine zr_iconst (pc := 16) hV 1 dX12_count_16 rfl ?_
      refine zr_aload_n (pc := 17) hV dX12_count_17 rfl rfl ?_
      refine zr_getI (pc := 18) hV 1 dX12_count_18 fX12_13 rfl rfl rfl (by decide) ?_
      have t10 := zx_g1 hσ
      refine zr_ishl (pc := 21) hV dX12_count_21 ?_
      have t11 := zx_shl_one (y := σ 0 1) 3 8 (by decide) (by decide) (by omega)
      refine zr_goto (pc := 22) hV 64 dX12_count_22 (by decide) ?_
      show V 64 [some (ZR 0), some (ZI what)] [ZI (zq_shl 1 (σ 0 1))] 41 σ
      exact zr_iret (pc := 64) hV dX12_count_64 rfl rfl ⟨rfl, _, rfl, (by omega), (by omega)⟩
  · show V 4 [some (ZR 0), some (ZI what)] [] 41 σ
    refine zr_aload_n (pc := 4) hV dX12_count_4 rfl rfl ?_
    refine zr_getI (pc := 5) hV 3 dX12_count_5 fX12_150 rfl rfl rfl (by decide) ?_
    have t12 := zx_g3 hσ
    refine zr_goto (pc := 8) hV 64 dX12_count_8 (by decide) ?_
    show V 64 [some (ZR 0), some (ZI what)] [ZI (σ 0 3)] 41 σ
    exact zr_iret (pc := 64) hV dX12_count_64 rfl rfl ⟨rfl, _, rfl, (by omega), (by omega)⟩
set_option maxHeartbeats 800000 in
theorem c_X12_leastBits2 {σ : zq_S} (hσ : zx_T σ) (order : Int) (q0 : 0 ≤ order ∧ order ≤ 20) : zq_C zx_w yX12_leastBits cX12_leastBits 4 (some .int) 0 0 41 41 [ZR 0, ZI order] σ (zq_pp σ (fun r => r = zt_mk (fun i => decide (zt_L σ order i = 1)) (σ 0 2))) := by
  refine zq_C_of (by decide) (Nat.le_refl _) (Nat.le_of_ble_eq_true rfl) [some (ZR 0), some (ZI order), none, none] rfl (fun V hV => ?_)
  have zb2 := zx_g2 hσ
  show V 0 [some (ZR 0), some (ZI order), none, none] [] 41 σ
  refine zr_iconst (pc := 0) hV 0 dX12_leastBits_0 rfl ?_
  refine zr_istore_n (pc := 1) hV [some (ZR 0), some (ZI order), some (ZI 0), none] dX12_leastBits_1 rfl (by decide) rfl rfl ?_
  refine zr_iconst (pc := 2) hV 0 dX12_leastBits_2 rfl ?_
  refine zr_istore_n (pc := 3) hV [some (ZR 0), some (ZI order), some (ZI 0), some (ZI 0)] dX12_leastBits_3 rfl (by decide) rfl rfl ?_
  have L4 : ∀ (fuel : Nat) (x2_4 : Int) (x3_4 : Int), (0 ≤ x2_4 ∧ x2_4 ≤ 4095) → (0 ≤ x3_4 ∧ x3_4 ≤ 12) → (x2_4 = zt_mk (fun i => decide (zt_L σ order i = 1)) x3_4) → (x3_4 ≤ σ 0 2) → 12 - x3_4 < (fuel : Int) → V 4 [some (ZR 0), some (ZI order), some (ZI x2_4), some (ZI x3_4)] [] 41 σ := by
    intro fuel
    induction fuel with
    | zero =>
      intro x2_4 x3_4 hx2_4 hx3_4 hi4_0 hi4_1 hm4
      exfalso; omega
    | succ fuel ih =>
      intro x2_4 x3_4 hx2_4 hx3_4 hi4_0 hi4_1 hm4
      have ih4 := ih
      show V 4 [some (ZR 0), some (ZI order), some (ZI x2_4), some (ZI x3_4)] [] 41 σ
      refine zr_iload_n (pc := 4) hV dX12_leastBits_4 rfl rfl ?_
      refine zr_aload_n (pc := 5) hV dX12_leastBits_5 rfl rfl ?_
      refine zr_getI (pc := 6) hV 2 dX12_leastBits_6 fX12_16 rfl rfl rfl (by decide) ?_
      have t1 := zx_g2 hσ
      refine zr_icmp_ge (pc := 9) hV 43 dX12_leastBits_9 (by decide) (by omega) (by omega) (fun c2 => ?_) (fun c2 => ?_)
      · show V 43 [some (ZR 0), some (ZI order), some (ZI x2_4), some (ZI x3_4)] [] 41 σ
        refine zr_iload_n (pc := 43) hV dX12_leastBits_43 rfl rfl ?_
        exact zr_iret (pc := 44) hV dX12_leastBits_44 rfl rfl ⟨rfl, _, rfl, (by omega), (by rw [show σ 0 2 = x3_4 by omega]; exact hi4_0)⟩
      · show V 12 [some (ZR 0), some (ZI order), some (ZI x2_4), some (ZI x3_4)] [] 41 σ
        have zL1 : zt_L σ order x3_4 = σ 2 (12 * order + x3_4) := rfl
        have zr := zt_mk_r (fun i => decide (zt_L σ order i = 1)) x3_4
        have zps := zx_p2_s x3_4 (by omega)
        have zle := zx_p2_le (m := x3_4 + 1) (n := 12) (by omega)
        have z12 := zx_p2_12
        refine zr_iconst (pc := 12) hV 2 dX12_leastBits_12 rfl ?_
        refine zr_iload_n (pc := 13) hV dX12_leastBits_13 rfl rfl ?_
        refine zr_imul (pc := 14) hV dX12_leastBits_14 ?_
        refine zr_aload_n (pc := 15) hV dX12_leastBits_15 rfl rfl ?_
        refine zr_getR (pc := 16) hV 5 2 dX12_leastBits_16 fX12_23 rfl rfl rfl (by decide) (zx_g5 hσ) (by omega) ?_
        refine zr_bipush (pc := 19) hV 12 dX12_leastBits_19 (by decide) ?_
        refine zr_iload_n (pc := 21) hV dX12_leastBits_21 rfl rfl ?_
        refine zr_imul (pc := 22) hV dX12_leastBits_22 ?_
        refine zr_iload_n (pc := 23) hV dX12_leastBits_23 rfl rfl ?_
        refine zr_iadd (pc := 24) hV dX12_leastBits_24 ?_
        refine zr_iald (pc := 25) hV dX12_leastBits_25 rfl (by decide) rfl (by omega) ?_
        have t3 := zx_ga2 hσ ((12 * order) + x3_4)
        refine zr_iconst (pc := 26) hV 1 dX12_leastBits_26 rfl ?_
        refine zr_icmp_ne (pc := 27) hV 34 dX12_leastBits_27 (by decide) (by omega) ⟨by decide, by decide⟩ (fun c4 => ?_) (fun c4 => ?_)
        · show V 34 [some (ZR 0), some (ZI order), some (ZI x2_4), some (ZI x3_4)] [ZI (2 * x2_4)] 41 σ
          refine zr_iconst (pc := 34) hV 0 dX12_leastBits_34 rfl ?_
          show V 35 [some (ZR 0), some (ZI order), some (ZI x2_4), some (ZI x3_4)] [ZI 0, ZI (2 * x2_4)] 41 σ
          refine zr_iadd (pc := 35) hV dX12_leastBits_35 ?_
          refine zr_istore_n (pc := 36) hV [some (ZR 0), some (ZI order), some (ZI ((2 * x2_4) + 0)), some (ZI x3_4)] dX12_leastBits_36 rfl (by decide) rfl rfl ?_
          refine zr_iinc (pc := 37) hV [some (ZR 0), some (ZI order), some (ZI ((2 * x2_4) + 0)), some (ZI (x3_4 + 1))] (x3_4 + 1) dX12_leastBits_37 rfl rfl (by decide) rfl rfl ?_
          refine zr_goto (pc := 40) hV 4 dX12_leastBits_40 (by decide) ?_
          have t5 := zx_g2 hσ
          exact ih4 ((2 * x2_4) + 0) (x3_4 + 1) (by omega) (by omega) (by rw [zt_mk_n (by omega) (fun q => absurd (of_decide_eq_true q) (by omega)), ← hi4_0]; omega) (by omega) (by omega)
        · show V 30 [some (ZR 0), some (ZI order), some (ZI x2_4), some (ZI x3_4)] [ZI (2 * x2_4)] 41 σ
          refine zr_iconst (pc := 30) hV 1 dX12_leastBits_30 rfl ?_
          refine zr_goto (pc := 31) hV 35 dX12_leastBits_31 (by decide) ?_
          show V 35 [some (ZR 0), some (ZI order), some (ZI x2_4), some (ZI x3_4)] [ZI 1, ZI (2 * x2_4)] 41 σ
          refine zr_iadd (pc := 35) hV dX12_leastBits_35 ?_
          refine zr_istore_n (pc := 36) hV [some (ZR 0), some (ZI order), some (ZI ((2 * x2_4) + 1)), some (ZI x3_4)] dX12_leastBits_36 rfl (by decide) rfl rfl ?_
          refine zr_iinc (pc := 37) hV [some (ZR 0), some (ZI order), some (ZI ((2 * x2_4) + 1)), some (ZI (x3_4 + 1))] (x3_4 + 1) dX12_leastBits_37 rfl rfl (by decide) rfl rfl ?_
          refine zr_goto (pc := 40) hV 4 dX12_leastBits_40 (by decide) ?_
          have t6 := zx_g2 hσ
          exact ih4 ((2 * x2_4) + 1) (x3_4 + 1) (by omega) (by omega) (by rw [zt_mk_y (by omega) (decide_eq_true (by omega)), ← hi4_0]) (by omega) (by omega)
  have t7 := zx_g2 hσ
  exact L4 (12 - (0 : Int) + 1 : Int).toNat 0 0 (by omega) (by omega) (zt_mk_0 _).symm (by omega) (by omega)
set_option maxHeartbeats 800000 in
theorem c_X12_about2 {σ : zq_S} (hσ : zx_T σ) (order what : Int) (q0 : zq_in order) (q1 : zq_in what) : zq_C zx_w yX12_about cX12_about 3 (some .int) 3 69 41 41 [ZR 0, ZI order, ZI what] σ (zq_pp σ (fun r => zq_hid ((¬ (0 ≤ order ∧ order < σ 0 3) → r = -1) ∧ (0 ≤ order ∧ order < σ 0 3 → zu_abr σ order what r)))) := by
  refine zq_C_of (by decide) (Nat.le_refl _) (Nat.le_of_ble_eq_true rfl) [some (ZR 0), some (ZI order), some (ZI what)] rfl (fun V hV => ?_)
  show V 0 [some (ZR 0), some (ZI order), some (ZI what)] [] 41 σ
  refine zr_aload_n (pc := 0) hV dX12_about_0 rfl rfl ?_
  refine zr_iload_n (pc := 1) hV dX12_about_1 rfl rfl ?_
  refine zr_callVp (pc := 2) hV [ZI order] (st := []) (c_X12_isOrder (σ := σ) hσ order (by omega)) dX12_about_2 mX12_271 rfl (by decide) (by decide) (Nat.le_of_ble_eq_true rfl) (Nat.le_refl _) (fun r2 hr2 pr2 => ?_)
  have t1 := zx_g3 hσ
  refine zr_if_ne (pc := 5) hV 10 dX12_about_5 (by decide) (by omega) (fun c2 => ?_) (fun c2 => ?_)
  · show V 10 [some (ZR 0), some (ZI order), some (ZI what)] [] 41 σ
    refine zr_iload_n (pc := 10) hV dX12_about_10 rfl rfl ?_
    by_cases c3 : what = 0
    · refine zr_eqI (V := V) 0 c3 ?_
      refine zr_tableIn (pc := 11) hV 48 dX12_about_11 ⟨by decide, by decide⟩ (by decide) (by decide) rfl (by decide) ?_
      show V 48 [some (ZR 0), some (ZI order), some (ZI what)] [] 41 σ
      refine zr_aload_n (pc := 48) hV dX12_about_48 rfl rfl ?_
      refine zr_getR (pc := 49) hV 10 7 dX12_about_49 fX12_38 rfl rfl rfl (by decide) (zx_g10 hσ) (by omega) ?_
      refine zr_iload_n (pc := 52) hV dX12_about_52 rfl rfl ?_
      refine zr_iald (pc := 53) hV dX12_about_53 rfl (by decide) rfl (by omega) ?_
      have t4 := zx_ga7 hσ order
      exact zr_iret (pc := 54) hV dX12_about_54 rfl rfl ⟨rfl, _, rfl, (by omega), ⟨fun h => absurd (by omega) h, fun _ => ⟨fun _ => rfl, fun h => absurd h (by omega), fun h => absurd h (by omega), fun h => absurd h (by omega), fun h => absurd h (by omega), fun h => absurd h (by omega), fun h => absurd (by omega) h⟩⟩⟩
    by_cases c5 : what = 1
    · refine zr_eqI (V := V) 1 c5 ?_
      refine zr_tableIn (pc := 11) hV 55 dX12_about_11 ⟨by decide, by decide⟩ (by decide) (by decide) rfl (by decide) ?_
      show V 55 [some (ZR 0), some (ZI order), some (ZI what)] [] 41 σ
      refine zr_aload_n (pc := 55) hV dX12_about_55 rfl rfl ?_
      refine zr_getR (pc := 56) hV 8 5 dX12_about_56 fX12_32 rfl rfl rfl (by decide) (zx_g8 hσ) (by omega) ?_
      refine zr_iload_n (pc := 59) hV dX12_about_59 rfl rfl ?_
      refine zr_iald (pc := 60) hV dX12_about_60 rfl (by decide) rfl (by omega) ?_
      have t6 := zx_ga5 hσ order
      exact zr_iret (pc := 61) hV dX12_about_61 rfl rfl ⟨rfl, _, rfl, (by omega), ⟨fun h => absurd (by omega) h, fun _ => ⟨fun h => absurd h (by omega), fun _ => rfl, fun h => absurd h (by omega), fun h => absurd h (by omega), fun h => absurd h (by omega), fun h => absurd h (by omega), fun h => absurd (by omega) h⟩⟩⟩
    by_cases c7 : what = 2
    · refine zr_eqI (V := V) 2 c7 ?_
      refine zr_tableIn (pc := 11) hV 62 dX12_about_11 ⟨by decide, by decide⟩ (by decide) (by decide) rfl (by decide) ?_
      show V 62 [some (ZR 0), some (ZI order), some (ZI what)] [] 41 σ
      refine zr_aload_n (pc := 62) hV dX12_about_62 rfl rfl ?_
      refine zr_getR (pc := 63) hV 6 3 dX12_about_63 fX12_26 rfl rfl rfl (by decide) (zx_g6 hσ) (by omega) ?_
      refine zr_iload_n (pc := 66) hV dX12_about_66 rfl rfl ?_
      refine zr_iald (pc := 67) hV dX12_about_67 rfl (by decide) rfl (by omega) ?_
      have t8 := zx_ga3 hσ order
      exact zr_iret (pc := 68) hV dX12_about_68 rfl rfl ⟨rfl, _, rfl, (by omega), ⟨fun h => absurd (by omega) h, fun _ => ⟨fun h => absurd h (by omega), fun h => absurd h (by omega), fun _ => rfl, fun h => absurd h (by omega), fun h => absurd h (by omega), fun h => absurd h (by omega), fun h => absurd (by omega) h⟩⟩⟩
    by_cases c9 : what = 3
    · refine zr_eqI (V := V) 3 c9 ?_
      refine zr_tableIn (pc := 11) hV 69 dX12_about_11 ⟨by decide, by decide⟩ (by decide) (by decide) rfl (by decide) ?_
      show V 69 [some (ZR 0), some (ZI order), some (ZI what)] [] 41 σ
      refine zr_aload_n (pc := 69) hV dX12_about_69 rfl rfl ?_
      refine zr_iload_n (pc := 70) hV dX12_about_70 rfl rfl ?_
      refine zr_callVp (pc := 71) hV [ZI order] (st := []) (c_X12_fieldMask (σ := σ) hσ order (by omega)) dX12_about_71 mX12_274 rfl (by decide) (by decide) (Nat.le_of_ble_eq_true rfl) (Nat.le_refl _) (fun r71 hr71 pr71 => ?_)
      exact zr_iret (pc := 74) hV dX12_about_74 rfl rfl ⟨rfl, _, rfl, (by omega), ⟨fun h => absurd (by omega) h, fun _ => ⟨fun h => absurd h (by omega), fun h => absurd h (by omega), fun h => absurd h (by omega), fun _ => pr71, fun h => absurd h (by omega), fun h => absurd h (by omega), fun h => absurd (by omega) h⟩⟩⟩
    by_cases c10 : what = 4
    · refine zr_eqI (V := V) 4 c10 ?_
      refine zr_tableIn (pc := 11) hV 75 dX12_about_11 ⟨by decide, by decide⟩ (by decide) (by decide) rfl (by decide) ?_
      show V 75 [some (ZR 0), some (ZI order), some (ZI what)] [] 41 σ
      refine zr_aload_n (pc := 75) hV dX12_about_75 rfl rfl ?_
      refine zr_iload_n (pc := 76) hV dX12_about_76 rfl rfl ?_
      refine zr_iconst (pc := 77) hV 3 dX12_about_77 rfl ?_
      refine zr_callVp (pc := 78) hV [ZI order, ZI 3] (st := []) (c_X12_fieldBits (σ := σ) hσ order 3 (by omega) (by omega)) dX12_about_78 mX12_184 rfl (by decide) (by decide) (Nat.le_of_ble_eq_true rfl) (Nat.le_refl _) (fun r78 hr78 pr78 => ?_)
      have t11 := zx_g2 hσ
      exact zr_iret (pc := 81) hV dX12_about_81 rfl rfl ⟨rfl, _, rfl, (by omega), ⟨fun h => absurd (by omega) h, fun _ => ⟨fun h => absurd h (by omega), fun h => absurd h (by omega), fun h => absurd h (by omega), fun h => absurd h (by omega), fun _ => pr78.2.2, fun h => absurd h (by omega), fun h => absurd (by omega) h⟩⟩⟩
    by_cases c12 : what = 5
    · refine zr_eqI (V := V) 5 c12 ?_
      refine zr_tableIn (pc := 11) hV 82 dX12_about_11 ⟨by decide, by decide⟩ (by decide) (by decide) rfl (by decide) ?_
      show V 82 [some (ZR 0), some (ZI order), some (ZI what)] [] 41 σ
      refine zr_aload_n (pc := 82) hV dX12_about_82 rfl rfl ?_
      refine zr_iload_n (pc := 83) hV dX12_about_83 rfl rfl ?_
      refine zr_callVp (pc := 84) hV [ZI order] (st := []) (c_X12_leastBits2 (σ := σ) hσ order (by omega)) dX12_about_84 mX12_277 rfl (by decide) (by decide) (Nat.le_of_ble_eq_true rfl) (Nat.le_refl _) (fun r84 hr84 pr84 => ?_)
      have t13 := zx_g2 hσ
      exact zr_iret (pc := 87) hV dX12_about_87 rfl rfl ⟨rfl, _, rfl, (by omega), ⟨fun h => absurd (by omega) h, fun _ => ⟨fun h => absurd h (by omega), fun h => absurd h (by omega), fun h => absurd h (by omega), fun h => absurd h (by omega), fun h => absurd h (by omega), fun _ => pr84, fun h => absurd (by omega) h⟩⟩⟩
    refine zr_tableOut (pc := 11) hV 88 dX12_about_11 (by omega) (by omega) (by decide) ?_
    show V 88 [some (ZR 0), some (ZI order), some (ZI what)] [] 41 σ
    refine zr_iconst (pc := 88) hV (-1) dX12_about_88 rfl ?_
    exact zr_iret (pc := 89) hV dX12_about_89 rfl rfl ⟨rfl, _, rfl, ⟨by decide, by decide⟩, ⟨fun h => absurd (by omega) h, fun _ => ⟨fun h => absurd h (by omega), fun h => absurd h (by omega), fun h => absurd h (by omega), fun h => absurd h (by omega), fun h => absurd h (by omega), fun h => absurd h (by omega), fun _ => rfl⟩⟩⟩
  · show V 8 [some (ZR 0), some (ZI order), some (ZI what)] [] 41 σ
    refine zr_iconst (pc := 8) hV (-1) dX12_about_8 rfl ?_
    exact zr_iret (pc := 9) hV dX12_about_9 rfl rfl ⟨rfl, _, rfl, ⟨by decide, by decide⟩, ⟨fun _ => rfl, fun h => absurd h (by omega)⟩⟩
set_option maxHeartbeats 800000 in
theorem c_X12_isBits2 {σ : zq_S} (hσ : zx_T σ) (bits : Int) (q0 : zq_in bits) : zq_C zx_w yX12_isBits cX12_isBits 2 (some .boolean) 1 25 41 41 [ZR 0, ZI bits] σ (zq_pp σ (fun r => (r = 0 ∨ r = 1) ∧ (r = 1 ↔ 0 ≤ bits ∧ bits < zx_p2 (σ 0 2)) ∧ (r = 1 → bits ≤ 4095))) := by
  refine zq_C_of (by decide) (Nat.le_refl _) (Nat.le_of_ble_eq_true rfl) [some (ZR 0), some (ZI bits)] rfl (fun V hV => ?_)
  show V 0 [some (ZR 0), some (ZI bits)] [] 41 σ
  refine zr_iload_n (pc := 0) hV dX12_isBits_0 rfl rfl ?_
  refine zr_i2l (pc := 1) hV dX12_isBits_1 (by omega) ?_
  refine zr_lconst (pc := 2) hV 0 dX12_isBits_2 (by decide) ?_
  refine zr_iconst (pc := 3) hV 1 dX12_isBits_3 rfl ?_
  refine zr_aload_n (pc := 4) hV dX12_isBits_4 rfl rfl ?_
  refine zr_getI (pc := 5) hV 2 dX12_isBits_5 fX12_16 rfl rfl rfl (by decide) ?_
  have t1 := zx_g2 hσ
  refine zr_ishl (pc := 8) hV dX12_isBits_8 ?_
  have t2 := zx_shl_one (y := σ 0 2) 12 4096 (by decide) (by decide) (by omega)
  refine zr_iconst (pc := 9) hV 1 dX12_isBits_9 rfl ?_
  refine zr_isub (pc := 10) hV dX12_isBits_10 ?_
  refine zr_i2l (pc := 11) hV dX12_isBits_11 (by omega) ?_
  refine zr_callSp (pc := 12) hV [ZL bits, ZL 0, ZL ((zq_shl 1 (σ 0 2)) - 1)] (st := []) (c_X12_in (σ := σ) bits 0 ((zq_shl 1 (σ 0 2)) - 1) (by omega) (by omega) (by omega)) dX12_isBits_12 mX12_170 (by decide) (Nat.le_of_ble_eq_true rfl) (Nat.le_refl _) (fun r12 hr12 pr12 => ?_)
  exact zr_zret (pc := 15) hV dX12_isBits_15 rfl rfl (by omega) ⟨rfl, _, rfl, (by omega), (by omega)⟩
set_option maxHeartbeats 800000 in
theorem c_X12_look3 {σ : zq_S} (hσ : zx_T σ) (bits : Int) (q0 : zq_in bits) (Mσ : zx_M σ) (Wσ : zx_W σ) : zq_C zx_w yX12_look cX12_look 2 (some .int) 3 69 41 41 [ZR 0, ZI bits] σ (zq_pi (fun r τ => zx_T τ ∧ (∀ a i : Int, (¬ (a = 0 ∧ i = 30) ∧ a ≠ 18) → τ a i = σ a i) ∧ ((¬ (0 ≤ bits ∧ bits < zx_p2 (σ 0 2)) → r = -1)) ∧ zq_hid (0 ≤ bits ∧ bits < zx_p2 (σ 0 2) → zt_ow σ bits r) ∧ zx_M τ ∧ zx_W τ)) := by
  refine zq_C_of (by decide) (Nat.le_refl _) (Nat.le_of_ble_eq_true rfl) [some (ZR 0), some (ZI bits)] rfl (fun V hV => ?_)
  show V 0 [some (ZR 0), some (ZI bits)] [] 41 σ
  refine zr_aload_n (pc := 0) hV dX12_look_0 rfl rfl ?_
  refine zr_iload_n (pc := 1) hV dX12_look_1 rfl rfl ?_
  refine zr_callVp (pc := 2) hV [ZI bits] (st := []) (c_X12_isBits2 (σ := σ) hσ bits (by omega)) dX12_look_2 mX12_280 rfl (by decide) (by decide) (Nat.le_of_ble_eq_true rfl) (Nat.le_refl _) (fun r2 hr2 pr2 => ?_)
  have t1 := zx_g2 hσ
  refine zr_if_eq (pc := 5) hV 16 dX12_look_5 (by decide) (by omega) (fun c2 => ?_) (fun c2 => ?_)
  · show V 16 [some (ZR 0), some (ZI bits)] [] 41 σ
    refine zr_iconst (pc := 16) hV (-1) dX12_look_16 rfl ?_
    show V 17 [some (ZR 0), some (ZI bits)] [ZI (-1)] 41 σ
    exact zr_iret (pc := 17) hV dX12_look_17 rfl rfl ⟨_, rfl, ⟨by decide, by decide⟩, hσ, (fun a i _ => rfl), (by omega), (show 0 ≤ bits ∧ bits < zx_p2 (σ 0 2) → zt_ow σ bits ((-1) : Int) from (fun h => absurd h (by omega))), Mσ, Wσ⟩
  · show V 8 [some (ZR 0), some (ZI bits)] [] 41 σ
    refine zr_aload_n (pc := 8) hV dX12_look_8 rfl rfl ?_
    refine zr_iload_n (pc := 9) hV dX12_look_9 rfl rfl ?_
    refine zr_callVi (pc := 10) hV [ZI bits] (st := []) (c_X12_ownerOf2 (σ := σ) hσ bits (by omega) Mσ Wσ) dX12_look_10 mX12_283 rfl (by decide) (by decide) (Nat.le_of_ble_eq_true rfl) (Nat.le_refl _) (fun r10 σ10 hr10 pσ10 => ?_)
    obtain ⟨hσ10, hfσ10, pσ10⟩ := pσ10
    have Mσ10 : zx_M σ10 := pσ10.2.2.2.2.2.1
    have Wσ10 : zx_W σ10 := pσ10.2.2.2.2.2.2
    have hFσ10 : ∀ a i : Int, (¬ (a = 0 ∧ i = 30) ∧ a ≠ 18) → σ10 a i = σ a i := fun a i h => (hfσ10 a i ⟨h.1, h.2⟩)
    have t3 := zx_g30 hσ
    have t4 := zx_g30 hσ10
    refine zr_goto (pc := 13) hV 17 dX12_look_13 (by decide) ?_
    show V 17 [some (ZR 0), some (ZI bits)] [ZI r10] 41 σ10
    exact zr_iret (pc := 17) hV dX12_look_17 rfl rfl ⟨_, rfl, (by omega), hσ10, hFσ10, (by omega), (show 0 ≤ bits ∧ bits < zx_p2 (σ 0 2) → zt_ow σ bits r10 from (fun _ => by have q := Wσ10 pσ10.2.2.2.1 bits (by omega) (by rw [hfσ10 0 2 (by omega)]; omega); rw [← pσ10.2.2.1] at q; exact zt_ow_fr (fun i => (hFσ10 2 i (by omega)).symm) (hFσ10 0 3 (by omega)).symm (hFσ10 0 2 (by omega)).symm q)), Mσ10, Wσ10⟩
set_option maxHeartbeats 800000 in
theorem c_X12_hole3 {σ : zq_S} (hσ : zx_T σ) (from_ : Int) (q0 : zq_in from_) (Mσ : zx_M σ) (Wσ : zx_W σ) : zq_C zx_w yX12_hole cX12_hole 3 (some .int) 3 69 41 41 [ZR 0, ZI from_] σ (zq_pi (fun r τ => zx_T τ ∧ (∀ a i : Int, (¬ (a = 0 ∧ i = 30) ∧ a ≠ 18) → τ a i = σ a i) ∧ ((¬ (0 ≤ from_ ∧ from_ < zx_p2 (σ 0 2)) → r = -1)) ∧ zq_hid (0 ≤ from_ ∧ from_ < zx_p2 (σ 0 2) → zu_first (zt_hl σ) from_ (zx_p2 (σ 0 2)) r) ∧ zx_M τ ∧ zx_W τ)) := by
  refine zq_C_of (by decide) (Nat.le_refl _) (Nat.le_of_ble_eq_true rfl) [some (ZR 0), some (ZI from_), none] rfl (fun V hV => ?_)
  show V 0 [some (ZR 0), some (ZI from_), none] [] 41 σ
  refine zr_aload_n (pc := 0) hV dX12_hole_0 rfl rfl ?_
  refine zr_iload_n (pc := 1) hV dX12_hole_1 rfl rfl ?_
  refine zr_callVp (pc := 2) hV [ZI from_] (st := []) (c_X12_isBits2 (σ := σ) hσ from_ (by omega)) dX12_hole_2 mX12_280 rfl (by decide) (by decide) (Nat.le_of_ble_eq_true rfl) (Nat.le_refl _) (fun r2 hr2 pr2 => ?_)
  have t1 := zx_g2 hσ
  refine zr_if_ne (pc := 5) hV 10 dX12_hole_5 (by decide) (by omega) (fun c2 => ?_) (fun c2 => ?_)
  · show V 10 [some (ZR 0), some (ZI from_), none] [] 41 σ
    refine zr_iload_n (pc := 10) hV dX12_hole_10 rfl rfl ?_
    refine zr_istore_n (pc := 11) hV [some (ZR 0), some (ZI from_), some (ZI from_)] dX12_hole_11 rfl (by decide) rfl rfl ?_
    have L12 : ∀ (fuel : Nat) (x2_12 : Int) (σ_12 : zq_S), (0 ≤ x2_12 ∧ x2_12 ≤ 4096) → (zx_T σ_12) → (∀ a i : Int, (¬ (a = 0 ∧ i = 30) ∧ a ≠ 18) → σ_12 a i = σ a i) → (zx_M σ_12) → (zx_W σ_12) → (zq_hid (∀ y, from_ ≤ y → y < x2_12 → ¬ zt_hl σ y)) → (from_ ≤ x2_12) → 4096 - x2_12 < (fuel : Int) → V 12 [some (ZR 0), none, some (ZI x2_12)] [] 41 σ_12 := by
      intro fuel
      induction fuel with
      | zero =>
        intro x2_12 σ_12 hx2_12 hσ_12 hFσ_12 Mσ_12 Wσ_12 hi12_0 hi12_1 hm12
        exfalso; omega
      | succ fuel ih =>
        intro x2_12 σ_12 hx2_12 hσ_12 hFσ_12 Mσ_12 Wσ_12 hi12_0 hi12_1 hm12
        have ih12 := ih
        show V 12 [some (ZR 0), none, some (ZI x2_12)] [] 41 σ_12
        refine zr_iload_n (pc := 12) hV dX12_hole_12 rfl rfl ?_
        refine zr_iconst (pc := 13) hV 1 dX12_hole_13 rfl ?_
        refine zr_aload_n (pc := 14) hV dX12_hole_14 rfl rfl ?_
        refine zr_getI (pc := 15) hV 2 dX12_hole_15 fX12_16 rfl rfl rfl (by decide) ?_
        have t3 := zx_g2 hσ_12
        have t4 : σ_12 0 2 = σ 0 2 := hFσ_12 _ _ (by omega)
        refine zr_ishl (pc := 18) hV dX12_hole_18 ?_
        have t5 := zx_shl_one (y := σ_12 0 2) 12 4096 (by decide) (by decide) (by omega)
        have cb : zx_p2 (σ_12 0 2) = zx_p2 (σ 0 2) := by rw [hFσ_12 0 2 (by omega)]
        refine zr_icmp_ge (pc := 19) hV 38 dX12_hole_19 (by decide) (by omega) (by omega) (fun c6 => ?_) (fun c6 => ?_)
        · show V 38 [some (ZR 0), none, some (ZI x2_12)] [] 41 σ_12
          refine zr_bipush (pc := 38) hV (-4) dX12_hole_38 (by decide) ?_
          exact zr_iret (pc := 40) hV dX12_hole_40 rfl rfl ⟨_, rfl, ⟨by decide, by decide⟩, hσ_12, hFσ_12, (by omega), (show 0 ≤ from_ ∧ from_ < zx_p2 (σ 0 2) → zu_first (zt_hl σ) from_ (zx_p2 (σ 0 2)) ((-4) : Int) from (fun _ => ⟨fun h => absurd h (by decide), fun _ => ⟨rfl, fun y h0 h1 => hi12_0 y h0 (by omega)⟩⟩)), Mσ_12, Wσ_12⟩
        · show V 22 [some (ZR 0), none, some (ZI x2_12)] [] 41 σ_12
          refine zr_aload_n (pc := 22) hV dX12_hole_22 rfl rfl ?_
          refine zr_iload_n (pc := 23) hV dX12_hole_23 rfl rfl ?_
          refine zr_callVi (pc := 24) hV [ZI x2_12] (st := []) (c_X12_ownerOf2 (σ := σ_12) hσ_12 x2_12 (by omega) Mσ_12 Wσ_12) dX12_hole_24 mX12_283 rfl (by decide) (by decide) (Nat.le_of_ble_eq_true rfl) (Nat.le_refl _) (fun r24 σ24 hr24 pσ24 => ?_)
          obtain ⟨hσ24, hfσ24, pσ24⟩ := pσ24
          have Mσ24 : zx_M σ24 := pσ24.2.2.2.2.2.1
          have Wσ24 : zx_W σ24 := pσ24.2.2.2.2.2.2
          have hFσ24 : ∀ a i : Int, (¬ (a = 0 ∧ i = 30) ∧ a ≠ 18) → σ24 a i = σ a i := fun a i h => (hfσ24 a i ⟨h.1, h.2⟩).trans (hFσ_12 a i h)
          have t7 := zx_g30 hσ_12
          have t8 := zx_g30 hσ24
          have zow : zt_ow σ x2_12 r24 := by have q := Wσ24 pσ24.2.2.2.1 x2_12 (by omega) (by rw [hfσ24 0 2 (by omega)]; omega); rw [← pσ24.2.2.1] at q; exact zt_ow_fr (fun i => (hFσ24 2 i (by omega)).symm) (hFσ24 0 3 (by omega)).symm (hFσ24 0 2 (by omega)).symm q
          refine zr_if_ge (pc := 27) hV 32 dX12_hole_27 (by decide) (by omega) (fun c9 => ?_) (fun c9 => ?_)
          · show V 32 [some (ZR 0), none, some (ZI x2_12)] [] 41 σ24
            refine zr_iinc (pc := 32) hV [some (ZR 0), none, some (ZI (x2_12 + 1))] (x2_12 + 1) dX12_hole_32 rfl rfl (by decide) rfl rfl ?_
            refine zr_goto (pc := 35) hV 12 dX12_hole_35 (by decide) ?_
            exact ih12 (x2_12 + 1) σ24 (by omega) hσ24 hFσ24 Mσ24 Wσ24 (fun y h0 h1 => if hc : y = x2_12 then (by rw [hc]; exact fun q => q r24 (by omega) (zow.2 (by omega)).1 (zow.2 (by omega)).2.1) else hi12_0 y h0 (by omega)) (by omega) (by omega)
          · show V 30 [some (ZR 0), none, some (ZI x2_12)] [] 41 σ24
            refine zr_iload_n (pc := 30) hV dX12_hole_30 rfl rfl ?_
            exact zr_iret (pc := 31) hV dX12_hole_31 rfl rfl ⟨_, rfl, (by omega), hσ24, hFσ24, (by omega), (show 0 ≤ from_ ∧ from_ < zx_p2 (σ 0 2) → zu_first (zt_hl σ) from_ (zx_p2 (σ 0 2)) x2_12 from (fun _ => ⟨fun _ => ⟨by omega, by omega, (zow.1 (by omega)).2, hi12_0⟩, fun h => absurd h (by omega)⟩)), Mσ24, Wσ24⟩
    refine zr_sub (pc := 12) hV [some (ZR 0), none, some (ZI from_)] (⟨rfl, rfl, trivial⟩) ?_
    exact L12 (4096 - from_ + 1 : Int).toNat from_ σ (by omega) hσ (fun a i _ => rfl) Mσ Wσ (fun y h0 h1 => absurd h1 (by omega)) (by omega) (by omega)
  · show V 8 [some (ZR 0), some (ZI from_), none] [] 41 σ
    refine zr_iconst (pc := 8) hV (-1) dX12_hole_8 rfl ?_
    exact zr_iret (pc := 9) hV dX12_hole_9 rfl rfl ⟨_, rfl, ⟨by decide, by decide⟩, hσ, (fun a i _ => rfl), (by omega), (show 0 ≤ from_ ∧ from_ < zx_p2 (σ 0 2) → zu_first (zt_hl σ) from_ (zx_p2 (σ 0 2)) ((-1) : Int) from (fun h => absurd h (by omega))), Mσ, Wσ⟩
set_option maxHeartbeats 800000 in
theorem c_X12_room3 {σ : zq_S} (hσ : zx_T σ) (a c : Int) (q0 : zq_in a) (q1 : zq_in c) (Mσ : zx_M σ) (Oσ : zx_O σ) (Wσ : zx_W σ) : zq_C zx_w yX12_room cX12_room 3 (some .int) 4 99 41 41 [ZR 0, ZI a, ZI c] σ (zq_pi (fun r τ => zx_T τ ∧ (∀ a i : Int, (¬ (a = 0 ∧ i = 30) ∧ ¬ (a = 0 ∧ i = 61) ∧ a ≠ 18) → τ a i = σ a i) ∧ ((¬ (0 ≤ a ∧ a < σ 0 3 ∧ 0 ≤ c ∧ c < σ 0 3) → r = -1)) ∧ zq_hid (0 ≤ a ∧ a < σ 0 3 ∧ 0 ≤ c ∧ c < σ 0 3 → zt_rr σ a c r) ∧ zx_M τ ∧ zx_O τ ∧ zx_W τ)) := by
  refine zq_C_of (by decide) (Nat.le_refl _) (Nat.le_of_ble_eq_true rfl) [some (ZR 0), some (ZI a), some (ZI c)] rfl (fun V hV => ?_)
  show V 0 [some (ZR 0), some (ZI a), some (ZI c)] [] 41 σ
  refine zr_aload_n (pc := 0) hV dX12_room_0 rfl rfl ?_
  refine zr_iload_n (pc := 1) hV dX12_room_1 rfl rfl ?_
  refine zr_callVp (pc := 2) hV [ZI a] (st := []) (c_X12_isOrder (σ := σ) hσ a (by omega)) dX12_room_2 mX12_271 rfl (by decide) (by decide) (Nat.le_of_ble_eq_true rfl) (Nat.le_refl _) (fun r2 hr2 pr2 => ?_)
  have t1 := zx_g3 hσ
  refine zr_if_eq (pc := 5) hV 25 dX12_room_5 (by decide) (by omega) (fun c2 => ?_) (fun c2 => ?_)
  · show V 25 [some (ZR 0), some (ZI a), some (ZI c)] [] 41 σ
    refine zr_iconst (pc := 25) hV (-1) dX12_room_25 rfl ?_
    show V 26 [some (ZR 0), some (ZI a), some (ZI c)] [ZI (-1)] 41 σ
    exact zr_iret (pc := 26) hV dX12_room_26 rfl rfl ⟨_, rfl, ⟨by decide, by decide⟩, hσ, (fun a i _ => rfl), (by omega), (show 0 ≤ a ∧ a < σ 0 3 ∧ 0 ≤ c ∧ c < σ 0 3 → zt_rr σ a c ((-1) : Int) from (fun h => absurd h (by omega))), Mσ, Oσ, Wσ⟩
  · show V 8 [some (ZR 0), some (ZI a), some (ZI c)] [] 41 σ
    refine zr_aload_n (pc := 8) hV dX12_room_8 rfl rfl ?_
    refine zr_iload_n (pc := 9) hV dX12_room_9 rfl rfl ?_
    refine zr_callVp (pc := 10) hV [ZI c] (st := []) (c_X12_isOrder (σ := σ) hσ c (by omega)) dX12_room_10 mX12_271 rfl (by decide) (by decide) (Nat.le_of_ble_eq_true rfl) (Nat.le_refl _) (fun r10 hr10 pr10 => ?_)
    have t3 := zx_g3 hσ
    refine zr_if_eq (pc := 13) hV 25 dX12_room_13 (by decide) (by omega) (fun c4 => ?_) (fun c4 => ?_)
    · show V 25 [some (ZR 0), some (ZI a), some (ZI c)] [] 41 σ
      refine zr_iconst (pc := 25) hV (-1) dX12_room_25 rfl ?_
      show V 26 [some (ZR 0), some (ZI a), some (ZI c)] [ZI (-1)] 41 σ
      exact zr_iret (pc := 26) hV dX12_room_26 rfl rfl ⟨_, rfl, ⟨by decide, by decide⟩, hσ, (fun a i _ => rfl), (by omega), (show 0 ≤ a ∧ a < σ 0 3 ∧ 0 ≤ c ∧ c < σ 0 3 → zt_rr σ a c ((-1) : Int) from (fun h => absurd h (by omega))), Mσ, Oσ, Wσ⟩
    · show V 16 [some (ZR 0), some (ZI a), some (ZI c)] [] 41 σ
      refine zr_aload_n (pc := 16) hV dX12_room_16 rfl rfl ?_
      refine zr_iload_n (pc := 17) hV dX12_room_17 rfl rfl ?_
      refine zr_iload_n (pc := 18) hV dX12_room_18 rfl rfl ?_
      have t5 := zx_g3 hσ
      have t6 := zx_g3 hσ
      refine zr_callVi (pc := 19) hV [ZI a, ZI c] (st := []) (c_X12_roomFor3 (σ := σ) hσ a c (by omega) (by omega) Mσ Oσ Wσ) dX12_room_19 mX12_473 rfl (by decide) (by decide) (Nat.le_of_ble_eq_true rfl) (Nat.le_refl _) (fun r19 σ19 hr19 pσ19 => ?_)
      obtain ⟨hσ19, hfσ19, pσ19, wσ19, Mσ19, Oσ19, Wσ19⟩ := pσ19
      have hFσ19 : ∀ a i : Int, (¬ (a = 0 ∧ i = 30) ∧ ¬ (a = 0 ∧ i = 61) ∧ a ≠ 18) → σ19 a i = σ a i := fun a i h => (hfσ19 a i ⟨h.1, h.2.1, h.2.2⟩)
      have t7 := zx_g1 hσ
      have t8 := zx_g2 hσ
      refine zr_goto (pc := 22) hV 26 dX12_room_22 (by decide) ?_
      show V 26 [some (ZR 0), some (ZI a), some (ZI c)] [ZI r19] 41 σ19
      exact zr_iret (pc := 26) hV dX12_room_26 rfl rfl ⟨_, rfl, (by omega), hσ19, hFσ19, (by omega), (show 0 ≤ a ∧ a < σ 0 3 ∧ 0 ≤ c ∧ c < σ 0 3 → zt_rr σ a c r19 from (fun _ => wσ19.1)), Mσ19, Oσ19, Wσ19⟩
set_option maxHeartbeats 800000 in
theorem c_X12_fieldOf2 {σ : zq_S} (hσ : zx_T σ) (order bits field : Int) (q0 : 0 ≤ order ∧ order ≤ 20) (q1 : zq_in bits) (q2 : 0 ≤ field ∧ field ≤ 3) (q3 : zx_B σ order) : zq_C zx_w yX12_fieldOf cX12_fieldOf 6 (some .int) 0 0 41 41 [ZR 0, ZI order, ZI bits, ZI field] σ (zq_pp σ (fun r => 0 ≤ r ∧ r ≤ 255 ∧ (field ≤ 2 → r ≤ 7) ∧ r = zu_rf σ order bits field)) := by
  refine zq_C_of (by decide) (Nat.le_refl _) (Nat.le_of_ble_eq_true rfl) [some (ZR 0), some (ZI order), some (ZI bits), some (ZI field), none, none] rfl (fun V hV => ?_)
  have z0 := zx_cnt_0 σ order field
  have z00 := zx_g2 hσ
  have z000 := zx_p2_0
  have zz0 : zx_p2 (zx_cnt σ order field 0) = 1 := by rw [z0]; exact z000
  show V 0 [some (ZR 0), some (ZI order), some (ZI bits), some (ZI field), none, none] [] 41 σ
  refine zr_iconst (pc := 0) hV 0 dX12_fieldOf_0 rfl ?_
  refine zr_istore (pc := 1) hV [some (ZR 0), some (ZI order), some (ZI bits), some (ZI field), some (ZI 0), none] dX12_fieldOf_1 (by decide) rfl rfl ?_
  refine zr_iconst (pc := 3) hV 0 dX12_fieldOf_3 rfl ?_
  refine zr_istore (pc := 4) hV [some (ZR 0), some (ZI order), some (ZI bits), some (ZI field), some (ZI 0), some (ZI 0)] dX12_fieldOf_4 (by decide) rfl rfl ?_
  have L6 : ∀ (fuel : Nat) (x4_6 : Int) (x5_6 : Int), (0 ≤ x4_6 ∧ x4_6 ≤ 4095) → (0 ≤ x5_6 ∧ x5_6 ≤ 12) → (x4_6 < zx_p2 (zx_cnt σ order field x5_6)) → (x5_6 ≤ σ 0 2) → (x4_6 = zu_fo (fun i => decide (zt_L σ order i = 2 + field)) (fun i => decide (zt_bi (σ 0 2) bits i = 1)) x5_6) → 12 - x5_6 < (fuel : Int) → V 6 [some (ZR 0), some (ZI order), some (ZI bits), some (ZI field), some (ZI x4_6), some (ZI x5_6)] [] 41 σ := by
    intro fuel
    induction fuel with
    | zero =>
      intro x4_6 x5_6 hx4_6 hx5_6 hi6_0 hi6_1 hi6_2 hm6
      exfalso; omega
    | succ fuel ih =>
      intro x4_6 x5_6 hx4_6 hx5_6 hi6_0 hi6_1 hi6_2 hm6
      have ih6 := ih
      show V 6 [some (ZR 0), some (ZI order), some (ZI bits), some (ZI field), some (ZI x4_6), some (ZI x5_6)] [] 41 σ
      refine zr_iload (pc := 6) hV dX12_fieldOf_6 rfl ?_
      refine zr_aload_n (pc := 8) hV dX12_fieldOf_8 rfl rfl ?_
      refine zr_getI (pc := 9) hV 2 dX12_fieldOf_9 fX12_16 rfl rfl rfl (by decide) ?_
      have t1 := zx_g2 hσ
      refine zr_icmp_ge (pc := 12) hV 64 dX12_fieldOf_12 (by decide) (by omega) (by omega) (fun c2 => ?_) (fun c2 => ?_)
      · show V 64 [some (ZR 0), some (ZI order), some (ZI bits), some (ZI field), some (ZI x4_6), some (ZI x5_6)] [] 41 σ
        have zr : x4_6 < zx_p2 (zx_cnt σ order field (σ 0 2)) := by rw [show σ 0 2 = x5_6 by omega]; exact hi6_0
        have zs := zx_fld q3 q2 zr
        refine zr_iload (pc := 64) hV dX12_fieldOf_64 rfl ?_
        exact zr_iret (pc := 66) hV dX12_fieldOf_66 rfl rfl ⟨rfl, _, rfl, (by omega), ⟨by omega, zs.2, zs.1, by unfold zu_rf; rw [show σ 0 2 = x5_6 by omega] at hi6_2 ⊢; exact hi6_2⟩⟩
      · show V 15 [some (ZR 0), some (ZI order), some (ZI bits), some (ZI field), some (ZI x4_6), some (ZI x5_6)] [] 41 σ
        have z1 := zx_cnt_s σ order field x5_6 (by omega)
        have z2 := zx_cnt_b σ order field x5_6 (by omega)
        have z3 := zx_p2_s (zx_cnt σ order field x5_6) (by omega)
        have z4 := zx_p2_le (m := zx_cnt σ order field x5_6) (n := 12) (by omega)
        have z5 : zx_cnt σ order field (x5_6 + 1) = zx_cnt σ order field x5_6 + 1 → zx_p2 (zx_cnt σ order field (x5_6 + 1)) = zx_p2 (zx_cnt σ order field x5_6 + 1) := fun h => by rw [h]
        have z6 : zx_cnt σ order field (x5_6 + 1) = zx_cnt σ order field x5_6 → zx_p2 (zx_cnt σ order field (x5_6 + 1)) = zx_p2 (zx_cnt σ order field x5_6) := fun h => by rw [h]
        have z7 := zx_p2_12
        have z8 := zx_cnt_b σ order field (x5_6 + 1) (by omega)
        have z9 := zx_p2_le (m := zx_cnt σ order field (x5_6 + 1)) (n := 12) (by omega)
        have zL1 : zt_L σ order x5_6 = σ 2 (12 * order + x5_6) := rfl
        have zB1 : zt_bi (σ 0 2) bits x5_6 = zq_and (zq_shr bits ((σ 0 2) - 1 - x5_6)) 1 := rfl
        refine zr_aload_n (pc := 15) hV dX12_fieldOf_15 rfl rfl ?_
        refine zr_getR (pc := 16) hV 5 2 dX12_fieldOf_16 fX12_23 rfl rfl rfl (by decide) (zx_g5 hσ) (by omega) ?_
        refine zr_bipush (pc := 19) hV 12 dX12_fieldOf_19 (by decide) ?_
        refine zr_iload_n (pc := 21) hV dX12_fieldOf_21 rfl rfl ?_
        refine zr_imul (pc := 22) hV dX12_fieldOf_22 ?_
        refine zr_iload (pc := 23) hV dX12_fieldOf_23 rfl ?_
        refine zr_iadd (pc := 25) hV dX12_fieldOf_25 ?_
        refine zr_iald (pc := 26) hV dX12_fieldOf_26 rfl (by decide) rfl (by omega) ?_
        have t3 := zx_ga2 hσ ((12 * order) + x5_6)
        refine zr_iconst (pc := 27) hV 2 dX12_fieldOf_27 rfl ?_
        refine zr_iload_n (pc := 28) hV dX12_fieldOf_28 rfl rfl ?_
        refine zr_iadd (pc := 29) hV dX12_fieldOf_29 ?_
        refine zr_icmp_ne (pc := 30) hV 54 dX12_fieldOf_30 (by decide) (by omega) (by omega) (fun c4 => ?_) (fun c4 => ?_)
        · show V 54 [some (ZR 0), some (ZI order), some (ZI bits), some (ZI field), some (ZI x4_6), some (ZI x5_6)] [] 41 σ
          refine zr_iload (pc := 54) hV dX12_fieldOf_54 rfl ?_
          show V 56 [some (ZR 0), some (ZI order), some (ZI bits), some (ZI field), some (ZI x4_6), some (ZI x5_6)] [ZI x4_6] 41 σ
          refine zr_istore (pc := 56) hV [some (ZR 0), some (ZI order), some (ZI bits), some (ZI field), some (ZI x4_6), some (ZI x5_6)] dX12_fieldOf_56 (by decide) rfl rfl ?_
          refine zr_iinc (pc := 58) hV [some (ZR 0), some (ZI order), some (ZI bits), some (ZI field), some (ZI x4_6), some (ZI (x5_6 + 1))] (x5_6 + 1) dX12_fieldOf_58 rfl rfl (by decide) rfl rfl ?_
          refine zr_goto (pc := 61) hV 6 dX12_fieldOf_61 (by decide) ?_
          have t5 := zx_g2 hσ
          have t6 := zx_g2 hσ
          exact ih6 x4_6 (x5_6 + 1) (by omega) (by omega) (by omega) (by omega) (by rw [zu_fo_n (by omega) (fun q => absurd (of_decide_eq_true q) (by omega))]; exact hi6_2) (by omega)
        · show V 33 [some (ZR 0), some (ZI order), some (ZI bits), some (ZI field), some (ZI x4_6), some (ZI x5_6)] [] 41 σ
          refine zr_iconst (pc := 33) hV 2 dX12_fieldOf_33 rfl ?_
          refine zr_iload (pc := 34) hV dX12_fieldOf_34 rfl ?_
          refine zr_imul (pc := 36) hV dX12_fieldOf_36 ?_
          refine zr_iload_n (pc := 37) hV dX12_fieldOf_37 rfl rfl ?_
          refine zr_aload_n (pc := 38) hV dX12_fieldOf_38 rfl rfl ?_
          refine zr_getI (pc := 39) hV 2 dX12_fieldOf_39 fX12_16 rfl rfl rfl (by decide) ?_
          have t7 := zx_g2 hσ
          refine zr_iconst (pc := 42) hV 1 dX12_fieldOf_42 rfl ?_
          refine zr_isub (pc := 43) hV dX12_fieldOf_43 ?_
          refine zr_iload (pc := 44) hV dX12_fieldOf_44 rfl ?_
          refine zr_isub (pc := 46) hV dX12_fieldOf_46 ?_
          refine zr_ishr (pc := 47) hV dX12_fieldOf_47 ?_
          have t8 := zq_shr_in bits (((σ 0 2) - 1) - x5_6)
          refine zr_iconst (pc := 48) hV 1 dX12_fieldOf_48 rfl ?_
          refine zr_iand (pc := 49) hV dX12_fieldOf_49 ?_
          have t9 := zq_and_mask (zq_shr bits (((σ 0 2) - 1) - x5_6)) 1 1 2 (by decide) (by decide) (by decide)
          refine zr_iadd (pc := 50) hV dX12_fieldOf_50 ?_
          refine zr_goto (pc := 51) hV 56 dX12_fieldOf_51 (by decide) ?_
          show V 56 [some (ZR 0), some (ZI order), some (ZI bits), some (ZI field), some (ZI x4_6), some (ZI x5_6)] [ZI ((2 * x4_6) + (zq_and (zq_shr bits (((σ 0 2) - 1) - x5_6)) 1))] 41 σ
          refine zr_istore (pc := 56) hV [some (ZR 0), some (ZI order), some (ZI bits), some (ZI field), some (ZI ((2 * x4_6) + (zq_and (zq_shr bits (((σ 0 2) - 1) - x5_6)) 1))), some (ZI x5_6)] dX12_fieldOf_56 (by decide) rfl rfl ?_
          refine zr_iinc (pc := 58) hV [some (ZR 0), some (ZI order), some (ZI bits), some (ZI field), some (ZI ((2 * x4_6) + (zq_and (zq_shr bits (((σ 0 2) - 1) - x5_6)) 1))), some (ZI (x5_6 + 1))] (x5_6 + 1) dX12_fieldOf_58 rfl rfl (by decide) rfl rfl ?_
          refine zr_goto (pc := 61) hV 6 dX12_fieldOf_61 (by decide) ?_
          have t10 := zx_g2 hσ
          have t11 := zx_g2 hσ
          exact ih6 ((2 * x4_6) + (zq_and (zq_shr bits (((σ 0 2) - 1) - x5_6)) 1)) (x5_6 + 1) (by omega) (by omega) (by omega) (by omega) (if hb : zt_bi (σ 0 2) bits x5_6 = 1 then (by rw [zu_fo_1 (by omega) (decide_eq_true (by omega)) (decide_eq_true hb), ← hi6_2]; omega) else (by rw [zu_fo_0 (by omega) (decide_eq_true (by omega)) (fun q => hb (of_decide_eq_true q)), ← hi6_2]; omega)) (by omega)
  have t12 := zx_g2 hσ
  have t13 := zx_g2 hσ
  exact L6 (12 - (0 : Int) + 1 : Int).toNat 0 0 (by omega) (by omega) (by omega) (by omega) (zu_fo_z _ _).symm (by omega)
set_option maxHeartbeats 800000 in
theorem c_X12_field3 {σ : zq_S} (hσ : zx_T σ) (bits field : Int) (q0 : zq_in bits) (q1 : zq_in field) (Oσ : zx_O σ) : zq_C zx_w yX12_field cX12_field 4 (some .int) 2 47 41 41 [ZR 0, ZI bits, ZI field] σ (zq_pp σ (fun r => zq_hid ((¬ (0 ≤ bits ∧ bits < zx_p2 (σ 0 2) ∧ 0 ≤ field ∧ field ≤ 3) → r = -1) ∧ ((0 ≤ bits ∧ bits < zx_p2 (σ 0 2) ∧ 0 ≤ field ∧ field ≤ 3) → ∃ o, zt_ow σ bits o ∧ (o < 0 → r = -4) ∧ (0 ≤ o → (¬ 0 < zx_cnt σ o field (σ 0 2) → r = -4) ∧ (0 < zx_cnt σ o field (σ 0 2) → r = zu_rf σ o bits field)))))) := by
  refine zq_C_of (by decide) (Nat.le_refl _) (Nat.le_of_ble_eq_true rfl) [some (ZR 0), some (ZI bits), some (ZI field), none] rfl (fun V hV => ?_)
  show V 0 [some (ZR 0), some (ZI bits), some (ZI field), none] [] 41 σ
  refine zr_aload_n (pc := 0) hV dX12_field_0 rfl rfl ?_
  refine zr_iload_n (pc := 1) hV dX12_field_1 rfl rfl ?_
  refine zr_callVp (pc := 2) hV [ZI bits] (st := []) (c_X12_isBits2 (σ := σ) hσ bits (by omega)) dX12_field_2 mX12_280 rfl (by decide) (by decide) (Nat.le_of_ble_eq_true rfl) (Nat.le_refl _) (fun r2 hr2 pr2 => ?_)
  have t1 := zx_g2 hσ
  refine zr_if_eq (pc := 5) hV 20 dX12_field_5 (by decide) (by omega) (fun c2 => ?_) (fun c2 => ?_)
  · show V 20 [some (ZR 0), some (ZI bits), some (ZI field), none] [] 41 σ
    refine zr_iconst (pc := 20) hV (-1) dX12_field_20 rfl ?_
    exact zr_iret (pc := 21) hV dX12_field_21 rfl rfl ⟨rfl, _, rfl, ⟨by decide, by decide⟩, ⟨fun _ => rfl, fun h => absurd h (by omega)⟩⟩
  · show V 8 [some (ZR 0), some (ZI bits), some (ZI field), none] [] 41 σ
    refine zr_iload_n (pc := 8) hV dX12_field_8 rfl rfl ?_
    refine zr_i2l (pc := 9) hV dX12_field_9 (by omega) ?_
    refine zr_lconst (pc := 10) hV 0 dX12_field_10 (by decide) ?_
    refine zr_ldc2 (pc := 11) (v := 3) hV 3 dX12_field_11 kX12_174 (by decide) ?_
    refine zr_callSp (pc := 14) hV [ZL field, ZL 0, ZL 3] (st := []) (c_X12_in (σ := σ) field 0 3 (by omega) (by omega) (by omega)) dX12_field_14 mX12_170 (by decide) (Nat.le_of_ble_eq_true rfl) (Nat.le_refl _) (fun r14 hr14 pr14 => ?_)
    refine zr_if_ne (pc := 17) hV 22 dX12_field_17 (by decide) (by omega) (fun c3 => ?_) (fun c3 => ?_)
    · show V 22 [some (ZR 0), some (ZI bits), some (ZI field), none] [] 41 σ
      refine zr_aload_n (pc := 22) hV dX12_field_22 rfl rfl ?_
      refine zr_iload_n (pc := 23) hV dX12_field_23 rfl rfl ?_
      refine zr_callVp (pc := 24) hV [ZI bits] (st := []) (c_X12_orderOf2 (σ := σ) hσ bits (by omega)) dX12_field_24 mX12_286 rfl (by decide) (by decide) (Nat.le_of_ble_eq_true rfl) (Nat.le_refl _) (fun r24 hr24 pr24 => ?_)
      have t4 := zx_g3 hσ
      refine zr_istore_n (pc := 27) hV [some (ZR 0), some (ZI bits), some (ZI field), some (ZI r24)] dX12_field_27 rfl (by decide) rfl rfl ?_
      refine zr_iload_n (pc := 28) hV dX12_field_28 rfl rfl ?_
      refine zr_if_lt (pc := 29) hV 41 dX12_field_29 (by decide) (by omega) (fun c5 => ?_) (fun c5 => ?_)
      · show V 41 [some (ZR 0), some (ZI bits), some (ZI field), some (ZI r24)] [] 41 σ
        refine zr_bipush (pc := 41) hV (-4) dX12_field_41 (by decide) ?_
        refine zr_goto (pc := 43) hV 53 dX12_field_43 (by decide) ?_
        show V 53 [some (ZR 0), some (ZI bits), some (ZI field), some (ZI r24)] [ZI (-4)] 41 σ
        exact zr_iret (pc := 53) hV dX12_field_53 rfl rfl ⟨rfl, _, rfl, ⟨by decide, by decide⟩, ⟨fun h => absurd (by omega) h, fun _ => ⟨r24, pr24.2.2.2, fun _ => rfl, fun h => ⟨fun _ => rfl, fun h2 => by first | exact absurd h (by omega) | exact absurd (pr35.2.mpr h2) (by omega)⟩⟩⟩⟩
      · show V 32 [some (ZR 0), some (ZI bits), some (ZI field), some (ZI r24)] [] 41 σ
        refine zr_aload_n (pc := 32) hV dX12_field_32 rfl rfl ?_
        refine zr_iload_n (pc := 33) hV dX12_field_33 rfl rfl ?_
        refine zr_iload_n (pc := 34) hV dX12_field_34 rfl rfl ?_
        refine zr_callVp (pc := 35) hV [ZI r24, ZI field] (st := []) (c_X12_hasField (σ := σ) hσ r24 field (by omega) (by omega)) dX12_field_35 mX12_188 rfl (by decide) (by decide) (Nat.le_of_ble_eq_true rfl) (Nat.le_refl _) (fun r35 hr35 pr35 => ?_)
        have t6 := zx_g2 hσ
        refine zr_if_ne (pc := 38) hV 46 dX12_field_38 (by decide) (by omega) (fun c7 => ?_) (fun c7 => ?_)
        · show V 46 [some (ZR 0), some (ZI bits), some (ZI field), some (ZI r24)] [] 41 σ
          refine zr_aload_n (pc := 46) hV dX12_field_46 rfl rfl ?_
          refine zr_iload_n (pc := 47) hV dX12_field_47 rfl rfl ?_
          refine zr_iload_n (pc := 48) hV dX12_field_48 rfl rfl ?_
          refine zr_iload_n (pc := 49) hV dX12_field_49 rfl rfl ?_
          refine zr_callVp (pc := 50) hV [ZI r24, ZI bits, ZI field] (st := []) (c_X12_fieldOf2 (σ := σ) hσ r24 bits field (by omega) (by omega) (by omega) (Oσ r24 (by omega) (by omega)).2) dX12_field_50 mX12_289 rfl (by decide) (by decide) (Nat.le_of_ble_eq_true rfl) (Nat.le_refl _) (fun r50 hr50 pr50 => ?_)
          show V 53 [some (ZR 0), some (ZI bits), some (ZI field), some (ZI r24)] [ZI r50] 41 σ
          exact zr_iret (pc := 53) hV dX12_field_53 rfl rfl ⟨rfl, _, rfl, (by omega), ⟨fun h => absurd (by omega) h, fun _ => ⟨r24, pr24.2.2.2, fun h => absurd h (by omega), fun _ => ⟨fun h => absurd (pr35.2.mp (by omega)) h, fun _ => pr50.2.2.2⟩⟩⟩⟩
        · show V 41 [some (ZR 0), some (ZI bits), some (ZI field), some (ZI r24)] [] 41 σ
          refine zr_bipush (pc := 41) hV (-4) dX12_field_41 (by decide) ?_
          refine zr_goto (pc := 43) hV 53 dX12_field_43 (by decide) ?_
          show V 53 [some (ZR 0), some (ZI bits), some (ZI field), some (ZI r24)] [ZI (-4)] 41 σ
          exact zr_iret (pc := 53) hV dX12_field_53 rfl rfl ⟨rfl, _, rfl, ⟨by decide, by decide⟩, ⟨fun h => absurd (by omega) h, fun _ => ⟨r24, pr24.2.2.2, fun _ => rfl, fun h => ⟨fun _ => rfl, fun h2 => by first | exact absurd h (by omega) | exact absurd (pr35.2.mpr h2) (by omega)⟩⟩⟩⟩
    · show V 20 [some (ZR 0), some (ZI bits), some (ZI field), none] [] 41 σ
      refine zr_iconst (pc := 20) hV (-1) dX12_field_20 rfl ?_
      exact zr_iret (pc := 21) hV dX12_field_21 rfl rfl ⟨rfl, _, rfl, ⟨by decide, by decide⟩, ⟨fun _ => rfl, fun h => absurd h (by omega)⟩⟩
