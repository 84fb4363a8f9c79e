set_option maxHeartbeats 800000 in
theorem c_X12_leastBits2 {σ : zq_S} (hσ : zx_T σ) (order : Int) (q0 : 0 ≤ order ∧ order ≤ 20) : zq_C zx_w yX12_leastBits cX12_leastBits 4 (some .int) 0 0 41 41 [ZR 0, ZI order] σ (zq_pp σ (fun r => r = zt_mk (fun i => decide (zt_L σ order i = 1)) (σ 0 2))) := by
  refine zq_C_of (by decide) (Nat.le_refl _) (Nat.le_of_ble_eq_true rfl) [some (ZR 0), some (ZI order), none, none] rfl (fun V hV => ?_)
  have zb2 := zx_g2 hσ
  show V 0 [some (ZR 0), some (ZI order), none, none] [] 41 σ
  refine zr_iconst (pc := 0) hV 0 dX12_leastBits_0 rfl ?_
  refine zr_istore_n (pc := 1) hV [some (ZR 0), some (ZI order), some (ZI 0), none] dX12_leastBits_1 rfl (by decide) rfl rfl ?_
  refine zr_iconst (pc := 2) hV 0 dX12_leastBits_2 rfl ?_
  refine zr_istore_n (pc := 3) hV [some (ZR 0), some (ZI order), some (ZI 0), some (ZI 0)] dX12_leastBits_3 rfl (by decide) rfl rfl ?_
  have L4 : ∀ (fuel : Nat) (x2_4 : Int) (x3_4 : Int), (0 ≤ x2_4 ∧ x2_4 ≤ 4095) → (0 ≤ x3_4 ∧ x3_4 ≤ 12) → (x2_4 = zt_mk (fun i => decide (zt_L σ order i = 1)) x3_4) → (x3_4 ≤ σ 0 2) → 12 - x3_4 < (fuel : Int) → V 4 [some (ZR 0), some (ZI order), some (ZI x2_4), some (ZI x3_4)] [] 41 σ := by
    intro fuel
    induction fuel with
    | zero =>
      intro x2_4 x3_4 hx2_4 hx3_4 hi4_0 hi4_1 hm4
      exfalso; omega
    | succ fuel ih =>
      intro x2_4 x3_4 hx2_4 hx3_4 hi4_0 hi4_1 hm4
      have ih4 := ih
      show V 4 [some (ZR 0), some (ZI order), some (ZI x2_4), some (ZI x3_4)] [] 41 σ
      refine zr_iload_n (pc := 4) hV dX12_leastBits_4 rfl rfl ?_
      refine zr_aload_n (pc := 5) hV dX12_leastBits_5 rfl rfl ?_
      refine zr_getI (pc := 6) hV 2 dX12_leastBits_6 fX12_16 rfl rfl rfl (by decide) ?_
      have t1 := zx_g2 hσ
      refine zr_icmp_ge (pc := 9) hV 43 dX12_leastBits_9 (by decide) (by omega) (by omega) (fun c2 => ?_) (fun c2 => ?_)
      · show V 43 [some (ZR 0), some (ZI order), some (ZI x2_4), some (ZI x3_4)] [] 41 σ
        refine zr_iload_n (pc := 43) hV dX12_leastBits_43 rfl rfl ?_
        exact zr_iret (pc := 44) hV dX12_leastBits_44 rfl rfl ⟨rfl, _, rfl, (by omega), (by rw [show σ 0 2 = x3_4 by omega]; exact hi4_0)⟩
      · show V 12 [some (ZR 0), some (ZI order), some (ZI x2_4), some (ZI x3_4)] [] 41 σ
        have zL1 : zt_L σ order x3_4 = σ 2 (12 * order + x3_4) := rfl
        have zr := zt_mk_r (fun i => decide (zt_L σ order i = 1)) x3_4
        have zps := zx_p2_s x3_4 (by omega)
        have zle := zx_p2_le (m := x3_4 + 1) (n := 12) (by omega)
        have z12 := zx_p2_12
        refine zr_iconst (pc := 12) hV 2 dX12_leastBits_12 rfl ?_
        refine zr_iload_n (pc := 13) hV dX12_leastBits_13 rfl rfl ?_
        refine zr_imul (pc := 14) hV dX12_leastBits_14 ?_
        refine zr_aload_n (pc := 15) hV dX12_leastBits_15 rfl rfl ?_
        refine zr_getR (pc := 16) hV 5 2 dX12_leastBits_16 fX12_23 rfl rfl rfl (by decide) (zx_g5 hσ) (by omega) ?_
        refine zr_bipush (pc := 19) hV 12 dX12_leastBits_19 (by decide) ?_
        refine zr_iload_n (pc := 21) hV dX12_leastBits_21 rfl rfl ?_
        refine zr_imul (pc := 22) hV dX12_leastBits_22 ?_
        refine zr_iload_n (pc := 23) hV dX12_leastBits_23 rfl rfl ?_
        refine zr_iadd (pc := 24) hV dX12_leastBits_24 ?_
        refine zr_iald (pc := 25) hV dX12_leastBits_25 rfl (by decide) rfl (by omega) ?_
        have t3 := zx_ga2 hσ ((12 * order) + x3_4)
        refine zr_iconst (pc := 26) hV 1 dX12_leastBits_26 rfl ?_
        refine zr_icmp_ne (pc := 27) hV 34 dX12_leastBits_27 (by decide) (by omega) ⟨by decide, by decide⟩ (fun c4 => ?_) (fun c4 => ?_)
        · show V 34 [some (ZR 0), some (ZI order), some (ZI x2_4), some (ZI x3_4)] [ZI (2 * x2_4)] 41 σ
          refine zr_iconst (pc := 34) hV 0 dX12_leastBits_34 rfl ?_
          show V 35 [some (ZR 0), some (ZI order), some (ZI x2_4), some (ZI x3_4)] [ZI 0, ZI (2 * x2_4)] 41 σ
          refine zr_iadd (pc := 35) hV dX12_leastBits_35 ?_
          refine zr_istore_n (pc := 36) hV [some (ZR 0), some (ZI order), some (ZI ((2 * x2_4) + 0)), some (ZI x3_4)] dX12_leastBits_36 rfl (by decide) rfl rfl ?_
          refine zr_iinc (pc := 37) hV [some (ZR 0), some (ZI order), some (ZI ((2 * x2_4) + 0)), some (ZI (x3_4 + 1))] (x3_4 + 1) dX12_leastBits_37 rfl rfl (by decide) rfl rfl ?_
          refine zr_goto (pc := 40) hV 4 dX12_leastBits_40 (by decide) ?_
          have t5 := zx_g2 hσ
          exact ih4 ((2 * x2_4) + 0) (x3_4 + 1) (by omega) (by omega) (by rw [zt_mk_n (by omega) (fun q => absurd (of_decide_eq_true q) (by omega)), ← hi4_0]; omega) (by omega) (by omega)
        · show V 30 [some (ZR 0), some (ZI order), some (ZI x2_4), some (ZI x3_4)] [ZI (2 * x2_4)] 41 σ
          refine zr_iconst (pc := 30) hV 1 dX12_leastBits_30 rfl ?_
          refine zr_goto (pc := 31) hV 35 dX12_leastBits_31 (by decide) ?_
          show V 35 [some (ZR 0), some (ZI order), some (ZI x2_4), some (ZI x3_4)] [ZI 1, ZI (2 * x2_4)] 41 σ
          refine zr_iadd (pc := 35) hV dX12_leastBits_35 ?_
          refine zr_istore_n (pc := 36) hV [some (ZR 0), some (ZI order), some (ZI ((2 * x2_4) + 1)), some (ZI x3_4)] dX12_leastBits_36 rfl (by decide) rfl rfl ?_
          refine zr_iinc (pc := 37) hV [some (ZR 0), some (ZI order), some (ZI ((2 * x2_4) + 1)), some (ZI (x3_4 + 1))] (x3_4 + 1) dX12_leastBits_37 rfl rfl (by decide) rfl rfl ?_
          refine zr_goto (pc := 40) hV 4 dX12_leastBits_40 (by decide) ?_
          have t6 := zx_g2 hσ
          exact ih4 ((2 * x2_4) + 1) (x3_4 + 1) (by omega) (by omega) (by rw [zt_mk_y (by omega) (decide_eq_true (by omega)), ← hi4_0]) (by omega) (by omega)
  have t7 := zx_g2 hσ
  exact L4 (12 - (0 : Int) + 1 : Int).toNat 0 0 (by omega) (by omega) (zt_mk_0 _).symm (by omega) (by omega)
set_option maxHeartbeats 800000 in
theorem c_X12_about2 {σ : zq_S} (hσ : zx_T σ) (order what : Int) (q0 : zq_in order) (q1 : zq_in what) : zq_C zx_w yX12_about cX12_about 3 (some .int) 3 69 41 41 [ZR 0, ZI order, ZI what] σ (zq_pp σ (fun r => zq_hid ((¬ (0 ≤ order ∧ order < σ 0 3) → r = -1) ∧ (0 ≤ order ∧ order < σ 0 3 → zu_abr σ order what r)))) := by
  refine zq_C_of (by decide) (Nat.le_refl _) (Nat.le_of_ble_eq_true rfl) [some (ZR 0), some (ZI order), some (ZI what)] rfl (fun V hV => ?_)
  show V 0 [some (ZR 0), some (ZI order), some (ZI what)] [] 41 σ
  refine zr_aload_n (pc := 0) hV dX12_about_0 rfl rfl ?_
  refine zr_iload_n (pc := 1) hV dX12_about_1 rfl rfl ?_
  refine zr_callVp (pc := 2) hV [ZI order] (st := []) (c_X12_isOrder (σ := σ) hσ order (by omega)) dX12_about_2 mX12_271 rfl (by decide) (by decide) (Nat.le_of_ble_eq_true rfl) (Nat.le_refl _) (fun r2 hr2 pr2 => ?_)
  have t1 := zx_g3 hσ
  refine zr_if_ne (pc := 5) hV 10 dX12_about_5 (by decide) (by omega) (fun c2 => ?_) (fun c2 => ?_)
  · show V 10 [some (ZR 0), some (ZI order), some (ZI what)] [] 41 σ
    refine zr_iload_n (pc := 10) hV dX12_about_10 rfl rfl ?_
    by_cases c3 : what = 0
    · refine zr_eqI (V := V) 0 c3 ?_
      refine zr_tableIn (pc := 11) hV 48 dX12_about_11 ⟨by decide, by decide⟩ (by decide) (by decide) rfl (by decide) ?_
      show V 48 [some (ZR 0), some (ZI order), some (ZI what)] [] 41 σ
      refine zr_aload_n (pc := 48) hV dX12_about_48 rfl rfl ?_
      refine zr_getR (pc := 49) hV 10 7 dX12_about_49 fX12_38 rfl rfl rfl (by decide) (zx_g10 hσ) (by omega) ?_
      refine zr_iload_n (pc := 52) hV dX12_about_52 rfl rfl ?_
      refine zr_iald (pc := 53) hV dX12_about_53 rfl (by decide) rfl (by omega) ?_
      have t4 := zx_ga7 hσ order
      exact zr_iret (pc := 54) hV dX12_about_54 rfl rfl ⟨rfl, _, rfl, (by omega), ⟨fun h => absurd (by omega) h, fun _ => ⟨fun _ => rfl, fun h => absurd h (by omega), fun h => absurd h (by omega), fun h => absurd h (by omega), fun h => absurd h (by omega), fun h => absurd h (by omega), fun h => absurd (by omega) h⟩⟩⟩
    by_cases c5 : what = 1
    · refine zr_eqI (V := V) 1 c5 ?_
      refine zr_tableIn (pc := 11) hV 55 dX12_about_11 ⟨by decide, by decide⟩ (by decide) (by decide) rfl (by decide) ?_
      show V 55 [some (ZR 0), some (ZI order), some (ZI what)] [] 41 σ
      refine zr_aload_n (pc := 55) hV dX12_about_55 rfl rfl ?_
      refine zr_getR (pc := 56) hV 8 5 dX12_about_56 fX12_32 rfl rfl rfl (by decide) (zx_g8 hσ) (by omega) ?_
      refine zr_iload_n (pc := 59) hV dX12_about_59 rfl rfl ?_
      refine zr_iald (pc := 60) hV dX12_about_60 rfl (by decide) rfl (by omega) ?_
      have t6 := zx_ga5 hσ order
      exact zr_iret (pc := 61) hV dX12_about_61 rfl rfl ⟨rfl, _, rfl, (by omega), ⟨fun h => absurd (by omega) h, fun _ => ⟨fun h => absurd h (by omega), fun _ => rfl, fun h => absurd h (by omega), fun h => absurd h (by omega), fun h => absurd h (by omega), fun h => absurd h (by omega), fun h => absurd (by omega) h⟩⟩⟩
    by_cases c7 : what = 2
    · refine zr_eqI (V := V) 2 c7 ?_
      refine zr_tableIn (pc := 11) hV 62 dX12_about_11 ⟨by decide, by decide⟩ (by decide) (by decide) rfl (by decide) ?_
      show V 62 [some (ZR 0), some (ZI order), some (ZI what)] [] 41 σ
      refine zr_aload_n (pc := 62) hV dX12_about_62 rfl rfl ?_
      refine zr_getR (pc := 63) hV 6 3 dX12_about_63 fX12_26 rfl rfl rfl (by decide) (zx_g6 hσ) (by omega) ?_
      refine zr_iload_n (pc := 66) hV dX12_about_66 rfl rfl ?_
      refine zr_iald (pc := 67) hV dX12_about_67 rfl (by decide) rfl (by omega) ?_
      have t8 := zx_ga3 hσ order
      exact zr_iret (pc := 68) hV dX12_about_68 rfl rfl ⟨rfl, _, rfl, (by omega), ⟨fun h => absurd (by omega) h, fun _ => ⟨fun h => absurd h (by omega), fun h => absurd h (by omega), fun _ => rfl, fun h => absurd h (by omega), fun h => absurd h (by omega), fun h => absurd h (by omega), fun h => absurd (by omega) h⟩⟩⟩
    by_cases c9 : what = 3
    · refine zr_eqI (V := V) 3 c9 ?_
      refine zr_tableIn (pc := 11) hV 69 dX12_about_11 ⟨by decide, by decide⟩ (by decide) (by decide) rfl (by decide) ?_
      show V 69 [some (ZR 0), some (ZI order), some (ZI what)] [] 41 σ
      refine zr_aload_n (pc := 69) hV dX12_about_69 rfl rfl ?_
      refine zr_iload_n (pc := 70) hV dX12_about_70 rfl rfl ?_
      refine zr_callVp (pc := 71) hV [ZI order] (st := []) (c_X12_fieldMask (σ := σ) hσ order (by omega)) dX12_about_71 mX12_274 rfl (by decide) (by decide) (Nat.le_of_ble_eq_true rfl) (Nat.le_refl _) (fun r71 hr71 pr71 => ?_)
      exact zr_iret (pc := 74) hV dX12_about_74 rfl rfl ⟨rfl, _, rfl, (by omega), ⟨fun h => absurd (by omega) h, fun _ => ⟨fun h => absurd h (by omega), fun h => absurd h (by omega), fun h => absurd h (by omega), fun _ => pr71, fun h => absurd h (by omega), fun h => absurd h (by omega), fun h => absurd (by omega) h⟩⟩⟩
    by_cases c10 : what = 4
    · refine zr_eqI (V := V) 4 c10 ?_
      refine zr_tableIn (pc := 11) hV 75 dX12_about_11 ⟨by decide, by decide⟩ (by decide) (by decide) rfl (by decide) ?_
      show V 75 [some (ZR 0), some (ZI order), some (ZI what)] [] 41 σ
      refine zr_aload_n (pc := 75) hV dX12_about_75 rfl rfl ?_
      refine zr_iload_n (pc := 76) hV dX12_about_76 rfl rfl ?_
      refine zr_iconst (pc := 77) hV 3 dX12_about_77 rfl ?_
      refine zr_callVp (pc := 78) hV [ZI order, ZI 3] (st := []) (c_X12_fieldBits (σ := σ) hσ order 3 (by omega) (by omega)) dX12_about_78 mX12_184 rfl (by decide) (by decide) (Nat.le_of_ble_eq_true rfl) (Nat.le_refl _) (fun r78 hr78 pr78 => ?_)
      have t11 := zx_g2 hσ
      exact zr_iret (pc := 81) hV dX12_about_81 rfl rfl ⟨rfl, _, rfl, (by omega), ⟨fun h => absurd (by omega) h, fun _ => ⟨fun h => absurd h (by omega), fun h => absurd h (by omega), fun h => absurd h (by omega), fun h => absurd h (by omega), fun _ => pr78.2.2, fun h => absurd h (by omega), fun h => absurd (by omega) h⟩⟩⟩
    by_cases c12 : what = 5
    · refine zr_eqI (V := V) 5 c12 ?_
      refine zr_tableIn (pc := 11) hV 82 dX12_about_11 ⟨by decide, by decide⟩ (by decide) (by decide) rfl (by decide) ?_
      show V 82 [some (ZR 0), some (ZI order), some (ZI what)] [] 41 σ
      refine zr_aload_n (pc := 82) hV dX12_about_82 rfl rfl ?_
      refine zr_iload_n (pc := 83) hV dX12_about_83 rfl rfl ?_
      refine zr_callVp (pc := 84) hV [ZI order] (st := []) (c_X12_leastBits2 (σ := σ) hσ order (by omega)) dX12_about_84 mX12_277 rfl (by decide) (by decide) (Nat.le_of_ble_eq_true rfl) (Nat.le_refl _) (fun r84 hr84 pr84 => ?_)
      have t13 := zx_g2 hσ
      exact zr_iret (pc := 87) hV dX12_about_87 rfl rfl ⟨rfl, _, rfl, (by omega), ⟨fun h => absurd (by omega) h, fun _ => ⟨fun h => absurd h (by omega), fun h => absurd h (by omega), fun h => absurd h (by omega), fun h => absurd h (by omega), fun h => absurd h (by omega), fun _ => pr84, fun h => absurd (by omega) h⟩⟩⟩
    refine zr_tableOut (pc := 11) hV 88 dX12_about_11 (by omega) (by omega) (by decide) ?_
    show V 88 [some (ZR 0), some (ZI order), some (ZI what)] [] 41 σ
    refine zr_iconst (pc := 88) hV (-1) dX12_about_88 rfl ?_
    exact zr_iret (pc := 89) hV dX12_about_89 rfl rfl ⟨rfl, _, rfl, ⟨by decide, by decide⟩, ⟨fun h => absurd (by omega) h, fun _ => ⟨fun h => absurd h (by omega), fun h => absurd h (by omega), fun h => absurd h (by omega), fun h => absurd h (by omega), fun h => absurd h (by omega), fun h => absurd h (by omega), fun _ => rfl⟩⟩⟩
  · show V 8 [some (ZR 0), some (ZI order), some (ZI what)] [] 41 σ
    refine zr_iconst (pc := 8) hV (-1) dX12_about_8 rfl ?_
    exact zr_iret (pc := 9) hV dX12_about_9 rfl rfl ⟨rfl, _, rfl, ⟨by decide, by decide⟩, ⟨fun _ => rfl, fun h => absurd h (by omega)⟩⟩
