set_option maxHeartbeats 800000 in
theorem c_X12_inBrackets2 {σ : zq_S} (hσ : zx_T σ) (o bits what : Int) (q0 : 0 ≤ o ∧ o ≤ 20) (q1 : zq_in bits) (q2 : 0 ≤ what ∧ what ≤ 10) (q3 : zx_B σ o) : zq_C zx_w yX12_inBrackets cX12_inBrackets 4 (some .int) 1 25 41 41 [ZR 0, ZI o, ZI bits, ZI what] σ (zq_pp σ (fun r => 0 ≤ r ∧ r ≤ 1023 ∧ ∀ i : Nat, zw_tb r i ↔ zw_ob (zu_rf σ o bits) what i)) := by
  refine zq_C_of (by decide) (Nat.le_refl _) (Nat.le_of_ble_eq_true rfl) [some (ZR 0), some (ZI o), some (ZI bits), some (ZI what)] rfl (fun V hV => ?_)
  show V 0 [some (ZR 0), some (ZI o), some (ZI bits), some (ZI what)] [] 41 σ
  refine zr_iload_n (pc := 0) hV dX12_inBrackets_0 rfl rfl ?_
  refine zr_bipush (pc := 1) hV 6 dX12_inBrackets_1 (by decide) ?_
  refine zr_icmp_lt (pc := 3) hV 27 dX12_inBrackets_3 (by decide) (by omega) ⟨by decide, by decide⟩ (fun c1 => ?_) (fun c1 => ?_)
  · show V 27 [some (ZR 0), some (ZI o), some (ZI bits), some (ZI what)] [] 41 σ
    refine zr_iconst (pc := 27) hV 0 dX12_inBrackets_27 rfl ?_
    show V 28 [some (ZR 0), some (ZI o), some (ZI bits), some (ZI what)] [ZI 0] 41 σ
    exact zr_iret (pc := 28) hV dX12_inBrackets_28 rfl rfl ⟨rfl, _, rfl, ⟨by decide, by decide⟩, ⟨by decide, by decide, fun i => by unfold zw_ob; exact ⟨fun h => absurd h zw_tb_0, fun h => absurd h (by omega)⟩⟩⟩
  · show V 6 [some (ZR 0), some (ZI o), some (ZI bits), some (ZI what)] [] 41 σ
    refine zr_iload_n (pc := 6) hV dX12_inBrackets_6 rfl rfl ?_
    refine zr_bipush (pc := 7) hV 9 dX12_inBrackets_7 (by decide) ?_
    refine zr_icmp_ge (pc := 9) hV 27 dX12_inBrackets_9 (by decide) (by omega) ⟨by decide, by decide⟩ (fun c2 => ?_) (fun c2 => ?_)
    · show V 27 [some (ZR 0), some (ZI o), some (ZI bits), some (ZI what)] [] 41 σ
      refine zr_iconst (pc := 27) hV 0 dX12_inBrackets_27 rfl ?_
      show V 28 [some (ZR 0), some (ZI o), some (ZI bits), some (ZI what)] [ZI 0] 41 σ
      exact zr_iret (pc := 28) hV dX12_inBrackets_28 rfl rfl ⟨rfl, _, rfl, ⟨by decide, by decide⟩, ⟨by decide, by decide, fun i => by unfold zw_ob; exact ⟨fun h => absurd h zw_tb_0, fun h => absurd h (by omega)⟩⟩⟩
    · show V 12 [some (ZR 0), some (ZI o), some (ZI bits), some (ZI what)] [] 41 σ
      refine zr_iconst (pc := 12) hV 1 dX12_inBrackets_12 rfl ?_
      refine zr_aload_n (pc := 13) hV dX12_inBrackets_13 rfl rfl ?_
      refine zr_iload_n (pc := 14) hV dX12_inBrackets_14 rfl rfl ?_
      refine zr_iload_n (pc := 15) hV dX12_inBrackets_15 rfl rfl ?_
      refine zr_iload_n (pc := 16) hV dX12_inBrackets_16 rfl rfl ?_
      refine zr_bipush (pc := 17) hV 6 dX12_inBrackets_17 (by decide) ?_
      refine zr_isub (pc := 19) hV dX12_inBrackets_19 ?_
      refine zr_callVp (pc := 20) hV [ZI o, ZI bits, ZI (what - 6)] (st := [ZI 1]) (c_X12_fieldOf2 (σ := σ) hσ o bits (what - 6) (by omega) (by omega) (by omega) q3) dX12_inBrackets_20 mX12_289 rfl (by decide) (by decide) (Nat.le_of_ble_eq_true rfl) (Nat.le_refl _) (fun r20 hr20 pr20 => ?_)
      refine zr_ishl (pc := 23) hV dX12_inBrackets_23 ?_
      have t3 := zq_shl_in 1 r20
      refine zr_goto (pc := 24) hV 28 dX12_inBrackets_24 (by decide) ?_
      show V 28 [some (ZR 0), some (ZI o), some (ZI bits), some (ZI what)] [ZI (zq_shl 1 r20)] 41 σ
      exact zr_iret (pc := 28) hV dX12_inBrackets_28 rfl rfl ⟨rfl, _, rfl, (by omega), (by have b7 : 0 ≤ r20 ∧ r20 ≤ 7 := (by omega); have z7 := zq_shl_one (y := r20) 7 128 (by decide) (by decide) ⟨b7.1, by omega⟩; exact ⟨by omega, by omega, fun i => by rw [zw_tb_sh (by omega)]; unfold zw_ob; rw [← pr20.2.2.2]; omega⟩)⟩
set_option maxHeartbeats 800000 in
theorem c_X12_operandOf2 {σ : zq_S} (hσ : zx_T σ) (o bits what : Int) (q0 : 0 ≤ o ∧ o ≤ 20) (q1 : zq_in bits) (q2 : 0 ≤ what ∧ what ≤ 10) (q3 : zx_B σ o) : zq_C zx_w yX12_operandOf cX12_operandOf 4 (some .int) 2 48 41 41 [ZR 0, ZI o, ZI bits, ZI what] σ (zq_pp σ (fun r => 0 ≤ r ∧ r ≤ 1023 ∧ ∀ i : Nat, zw_tb r i ↔ zw_os (zu_rf σ o bits) what i)) := by
  refine zq_C_of (by decide) (Nat.le_refl _) (Nat.le_of_ble_eq_true rfl) [some (ZR 0), some (ZI o), some (ZI bits), some (ZI what)] rfl (fun V hV => ?_)
  show V 0 [some (ZR 0), some (ZI o), some (ZI bits), some (ZI what)] [] 41 σ
  refine zr_iload_n (pc := 0) hV dX12_operandOf_0 rfl rfl ?_
  refine zr_iconst (pc := 1) hV 3 dX12_operandOf_1 rfl ?_
  refine zr_icmp_ge (pc := 2) hV 15 dX12_operandOf_2 (by decide) (by omega) ⟨by decide, by decide⟩ (fun c1 => ?_) (fun c1 => ?_)
  · show V 15 [some (ZR 0), some (ZI o), some (ZI bits), some (ZI what)] [] 41 σ
    refine zr_iload_n (pc := 15) hV dX12_operandOf_15 rfl rfl ?_
    refine zr_iconst (pc := 16) hV 4 dX12_operandOf_16 rfl ?_
    refine zr_icmp_ne (pc := 17) hV 24 dX12_operandOf_17 (by decide) (by omega) ⟨by decide, by decide⟩ (fun c2 => ?_) (fun c2 => ?_)
    · show V 24 [some (ZR 0), some (ZI o), some (ZI bits), some (ZI what)] [] 41 σ
      refine zr_iload_n (pc := 24) hV dX12_operandOf_24 rfl rfl ?_
      refine zr_bipush (pc := 25) hV 6 dX12_operandOf_25 (by decide) ?_
      refine zr_icmp_lt (pc := 27) hV 50 dX12_operandOf_27 (by decide) (by omega) ⟨by decide, by decide⟩ (fun c3 => ?_) (fun c3 => ?_)
      · show V 50 [some (ZR 0), some (ZI o), some (ZI bits), some (ZI what)] [] 41 σ
        refine zr_iconst (pc := 50) hV 0 dX12_operandOf_50 rfl ?_
        show V 51 [some (ZR 0), some (ZI o), some (ZI bits), some (ZI what)] [ZI 0] 41 σ
        exact zr_iret (pc := 51) hV dX12_operandOf_51 rfl rfl ⟨rfl, _, rfl, ⟨by decide, by decide⟩, ⟨by decide, by decide, fun i => by unfold zw_os; exact ⟨fun h => absurd h zw_tb_0, fun h => absurd h (by omega)⟩⟩⟩
      · show V 30 [some (ZR 0), some (ZI o), some (ZI bits), some (ZI what)] [] 41 σ
        refine zr_iload_n (pc := 30) hV dX12_operandOf_30 rfl rfl ?_
        refine zr_bipush (pc := 31) hV 10 dX12_operandOf_31 (by decide) ?_
        refine zr_icmp_ge (pc := 33) hV 50 dX12_operandOf_33 (by decide) (by omega) ⟨by decide, by decide⟩ (fun c4 => ?_) (fun c4 => ?_)
        · show V 50 [some (ZR 0), some (ZI o), some (ZI bits), some (ZI what)] [] 41 σ
          refine zr_iconst (pc := 50) hV 0 dX12_operandOf_50 rfl ?_
          show V 51 [some (ZR 0), some (ZI o), some (ZI bits), some (ZI what)] [ZI 0] 41 σ
          exact zr_iret (pc := 51) hV dX12_operandOf_51 rfl rfl ⟨rfl, _, rfl, ⟨by decide, by decide⟩, ⟨by decide, by decide, fun i => by unfold zw_os; exact ⟨fun h => absurd h zw_tb_0, fun h => absurd h (by omega)⟩⟩⟩
        · show V 36 [some (ZR 0), some (ZI o), some (ZI bits), some (ZI what)] [] 41 σ
          refine zr_sipush (pc := 36) hV 256 dX12_operandOf_36 (by decide) ?_
          refine zr_aload_n (pc := 39) hV dX12_operandOf_39 rfl rfl ?_
          refine zr_iload_n (pc := 40) hV dX12_operandOf_40 rfl rfl ?_
          refine zr_iload_n (pc := 41) hV dX12_operandOf_41 rfl rfl ?_
          refine zr_iload_n (pc := 42) hV dX12_operandOf_42 rfl rfl ?_
          refine zr_callVp (pc := 43) hV [ZI o, ZI bits, ZI what] (st := [ZI 256]) (c_X12_inBrackets2 (σ := σ) hσ o bits what (by omega) (by omega) (by omega) q3) dX12_operandOf_43 mX12_359 rfl (by decide) (by decide) (Nat.le_of_ble_eq_true rfl) (Nat.le_refl _) (fun r43 hr43 pr43 => ?_)
          refine zr_ior (pc := 46) hV dX12_operandOf_46 ?_
          have t5 := zq_or_b (x := 256) (y := r43) 10 1024 (by decide) (by decide) (by omega) (by omega)
          refine zr_goto (pc := 47) hV 51 dX12_operandOf_47 (by decide) ?_
          show V 51 [some (ZR 0), some (ZI o), some (ZI bits), some (ZI what)] [ZI (zq_or 256 r43)] 41 σ
          exact zr_iret (pc := 51) hV dX12_operandOf_51 rfl rfl ⟨rfl, _, rfl, (by omega), (by have z := zq_or_b (x := 256) (y := r43) 10 1024 (by decide) (by decide) (by omega) (by omega); exact ⟨by omega, by omega, fun i => by rw [zw_tb_or (by omega) (by omega), zw_tb_2 8 (by decide), pr43.2.2 i]; unfold zw_ob zw_os; omega⟩)⟩
    · show V 20 [some (ZR 0), some (ZI o), some (ZI bits), some (ZI what)] [] 41 σ
      refine zr_sipush (pc := 20) hV 512 dX12_operandOf_20 (by decide) ?_
      exact zr_iret (pc := 23) hV dX12_operandOf_23 rfl rfl ⟨rfl, _, rfl, ⟨by decide, by decide⟩, ⟨by decide, by decide, fun i => by rw [zw_tb_2 9 (by decide)]; unfold zw_os; omega⟩⟩
  · show V 5 [some (ZR 0), some (ZI o), some (ZI bits), some (ZI what)] [] 41 σ
    refine zr_iconst (pc := 5) hV 1 dX12_operandOf_5 rfl ?_
    refine zr_aload_n (pc := 6) hV dX12_operandOf_6 rfl rfl ?_
    refine zr_iload_n (pc := 7) hV dX12_operandOf_7 rfl rfl ?_
    refine zr_iload_n (pc := 8) hV dX12_operandOf_8 rfl rfl ?_
    refine zr_iload_n (pc := 9) hV dX12_operandOf_9 rfl rfl ?_
    refine zr_callVp (pc := 10) hV [ZI o, ZI bits, ZI what] (st := [ZI 1]) (c_X12_fieldOf2 (σ := σ) hσ o bits what (by omega) (by omega) (by omega) q3) dX12_operandOf_10 mX12_289 rfl (by decide) (by decide) (Nat.le_of_ble_eq_true rfl) (Nat.le_refl _) (fun r10 hr10 pr10 => ?_)
    refine zr_ishl (pc := 13) hV dX12_operandOf_13 ?_
    have t6 := zq_shl_in 1 r10
    exact zr_iret (pc := 14) hV dX12_operandOf_14 rfl rfl ⟨rfl, _, rfl, (by omega), (by have b7 : 0 ≤ r10 ∧ r10 ≤ 7 := (by omega); have z7 := zq_shl_one (y := r10) 7 128 (by decide) (by decide) ⟨b7.1, by omega⟩; exact ⟨by omega, by omega, fun i => by rw [zw_tb_sh (by omega)]; unfold zw_os; rw [← pr10.2.2.2]; omega⟩)⟩
set_option maxHeartbeats 800000 in
theorem c_X12_targetsOf2 {σ : zq_S} (hσ : zx_T σ) (o bits : Int) (q0 : 0 ≤ o ∧ o ≤ 20) (q1 : zq_in bits) (q2 : zx_B σ o) : zq_C zx_w yX12_targetsOf cX12_targetsOf 6 (some .int) 1 25 41 41 [ZR 0, ZI o, ZI bits] σ (zq_pp σ (fun r => 0 ≤ r ∧ r ≤ 1023 ∧ ∀ i : Nat, zw_tb r i ↔ zw_ts (zu_rf σ o bits) (σ 6) (18 * o) (σ 5 o) i)) := by
  refine zq_C_of (by decide) (Nat.le_refl _) (Nat.le_of_ble_eq_true rfl) [some (ZR 0), some (ZI o), some (ZI bits), none, none, none] rfl (fun V hV => ?_)
  have z5o := zx_ga5 hσ o
  show V 0 [some (ZR 0), some (ZI o), some (ZI bits), none, none, none] [] 41 σ
  refine zr_iconst (pc := 0) hV 0 dX12_targetsOf_0 rfl ?_
  refine zr_istore_n (pc := 1) hV [some (ZR 0), some (ZI o), some (ZI bits), some (ZI 0), none, none] dX12_targetsOf_1 rfl (by decide) rfl rfl ?_
  refine zr_iconst (pc := 2) hV 0 dX12_targetsOf_2 rfl ?_
  refine zr_istore (pc := 3) hV [some (ZR 0), some (ZI o), some (ZI bits), some (ZI 0), some (ZI 0), none] dX12_targetsOf_3 (by decide) rfl rfl ?_
  have L5 : ∀ (fuel : Nat) (x3_5 : Int) (x4_5 : Int), (0 ≤ x3_5 ∧ x3_5 ≤ 1023) → (0 ≤ x4_5 ∧ x4_5 ≤ 3) → (zq_hid (∀ i : Nat, zw_tb x3_5 i ↔ zw_ts (zu_rf σ o bits) (σ 6) (18 * o) x4_5 i)) → (x4_5 ≤ σ 5 o) → 3 - x4_5 < (fuel : Int) → V 5 [some (ZR 0), some (ZI o), some (ZI bits), some (ZI x3_5), some (ZI x4_5), none] [] 41 σ := by
    intro fuel
    induction fuel with
    | zero =>
      intro x3_5 x4_5 hx3_5 hx4_5 hi5_0 hi5_1 hm5
      exfalso; omega
    | succ fuel ih =>
      intro x3_5 x4_5 hx3_5 hx4_5 hi5_0 hi5_1 hm5
      have ih5 := ih
      show V 5 [some (ZR 0), some (ZI o), some (ZI bits), some (ZI x3_5), some (ZI x4_5), none] [] 41 σ
      refine zr_iload (pc := 5) hV dX12_targetsOf_5 rfl ?_
      refine zr_aload_n (pc := 7) hV dX12_targetsOf_7 rfl rfl ?_
      refine zr_getR (pc := 8) hV 8 5 dX12_targetsOf_8 fX12_32 rfl rfl rfl (by decide) (zx_g8 hσ) (by omega) ?_
      refine zr_iload_n (pc := 11) hV dX12_targetsOf_11 rfl rfl ?_
      refine zr_iald (pc := 12) hV dX12_targetsOf_12 rfl (by decide) rfl (by omega) ?_
      have t1 := zx_ga5 hσ o
      refine zr_icmp_ge (pc := 13) hV 87 dX12_targetsOf_13 (by decide) (by omega) (by omega) (fun c2 => ?_) (fun c2 => ?_)
      · show V 87 [some (ZR 0), some (ZI o), some (ZI bits), some (ZI x3_5), some (ZI x4_5), none] [] 41 σ
        refine zr_iload_n (pc := 87) hV dX12_targetsOf_87 rfl rfl ?_
        exact zr_iret (pc := 88) hV dX12_targetsOf_88 rfl rfl ⟨rfl, _, rfl, (by omega), ⟨by omega, by omega, fun i => by rw [show σ 5 o = x4_5 by omega]; exact hi5_0 i⟩⟩
      · show V 16 [some (ZR 0), some (ZI o), some (ZI bits), some (ZI x3_5), some (ZI x4_5), none] [] 41 σ
        refine zr_aload_n (pc := 16) hV dX12_targetsOf_16 rfl rfl ?_
        refine zr_getR (pc := 17) hV 9 6 dX12_targetsOf_17 fX12_35 rfl rfl rfl (by decide) (zx_g9 hσ) (by omega) ?_
        refine zr_bipush (pc := 20) hV 18 dX12_targetsOf_20 (by decide) ?_
        refine zr_iload_n (pc := 22) hV dX12_targetsOf_22 rfl rfl ?_
        refine zr_imul (pc := 23) hV dX12_targetsOf_23 ?_
        refine zr_bipush (pc := 24) hV 6 dX12_targetsOf_24 (by decide) ?_
        refine zr_iload (pc := 26) hV dX12_targetsOf_26 rfl ?_
        refine zr_imul (pc := 28) hV dX12_targetsOf_28 ?_
        refine zr_iadd (pc := 29) hV dX12_targetsOf_29 ?_
        refine zr_iald (pc := 30) hV dX12_targetsOf_30 rfl (by decide) rfl (by omega) ?_
        have t3 := zx_ac0 hσ ((18 * o) + (6 * x4_5)) (by omega)
        refine zr_istore (pc := 31) hV [some (ZR 0), some (ZI o), some (ZI bits), some (ZI x3_5), some (ZI x4_5), some (ZI (σ 6 ((18 * o) + (6 * x4_5))))] dX12_targetsOf_31 (by decide) rfl rfl ?_
        refine zr_iload_n (pc := 33) hV dX12_targetsOf_33 rfl rfl ?_
        refine zr_iload (pc := 34) hV dX12_targetsOf_34 rfl ?_
        refine zr_iconst (pc := 36) hV 3 dX12_targetsOf_36 rfl ?_
        refine zr_icmp_ge (pc := 37) hV 53 dX12_targetsOf_37 (by decide) (by omega) ⟨by decide, by decide⟩ (fun c4 => ?_) (fun c4 => ?_)
        · show V 53 [some (ZR 0), some (ZI o), some (ZI bits), some (ZI x3_5), some (ZI x4_5), some (ZI (σ 6 ((18 * o) + (6 * x4_5))))] [ZI x3_5] 41 σ
          refine zr_iload (pc := 53) hV dX12_targetsOf_53 rfl ?_
          refine zr_iconst (pc := 55) hV 4 dX12_targetsOf_55 rfl ?_
          refine zr_icmp_ne (pc := 56) hV 65 dX12_targetsOf_56 (by decide) (by omega) ⟨by decide, by decide⟩ (fun c5 => ?_) (fun c5 => ?_)
          · show V 65 [some (ZR 0), some (ZI o), some (ZI bits), some (ZI x3_5), some (ZI x4_5), some (ZI (σ 6 ((18 * o) + (6 * x4_5))))] [ZI x3_5] 41 σ
            refine zr_iload (pc := 65) hV dX12_targetsOf_65 rfl ?_
            refine zr_bipush (pc := 67) hV 6 dX12_targetsOf_67 (by decide) ?_
            refine zr_icmp_lt (pc := 69) hV 78 dX12_targetsOf_69 (by decide) (by omega) ⟨by decide, by decide⟩ (fun c6 => ?_) (fun c6 => ?_)
            · show V 78 [some (ZR 0), some (ZI o), some (ZI bits), some (ZI x3_5), some (ZI x4_5), some (ZI (σ 6 ((18 * o) + (6 * x4_5))))] [ZI x3_5] 41 σ
              refine zr_iconst (pc := 78) hV 0 dX12_targetsOf_78 rfl ?_
              show V 79 [some (ZR 0), some (ZI o), some (ZI bits), some (ZI x3_5), some (ZI x4_5), some (ZI (σ 6 ((18 * o) + (6 * x4_5))))] [ZI 0, ZI x3_5] 41 σ
              refine zr_ior (pc := 79) hV dX12_targetsOf_79 ?_
              have t7 := zq_or_b (x := x3_5) (y := 0) 10 1024 (by decide) (by decide) (by omega) (by omega)
              refine zr_istore_n (pc := 80) hV [some (ZR 0), some (ZI o), some (ZI bits), some (ZI (zq_or x3_5 0)), some (ZI x4_5), some (ZI (σ 6 ((18 * o) + (6 * x4_5))))] dX12_targetsOf_80 rfl (by decide) rfl rfl ?_
              refine zr_iinc (pc := 81) hV [some (ZR 0), some (ZI o), some (ZI bits), some (ZI (zq_or x3_5 0)), some (ZI (x4_5 + 1)), some (ZI (σ 6 ((18 * o) + (6 * x4_5))))] (x4_5 + 1) dX12_targetsOf_81 rfl rfl (by decide) rfl rfl ?_
              refine zr_goto (pc := 84) hV 5 dX12_targetsOf_84 (by decide) ?_
              refine zr_sub (pc := 5) hV [some (ZR 0), some (ZI o), some (ZI bits), some (ZI (zq_or x3_5 0)), some (ZI (x4_5 + 1)), none] (⟨rfl, rfl, rfl, rfl, rfl, trivial⟩) ?_
              exact ih5 (zq_or x3_5 0) (x4_5 + 1) (by omega) (by omega) (fun i => by rw [zw_ts_s (by omega)]; rw [zw_tb_or (by omega) (by omega), hi5_0 i]; exact or_congr Iff.rfl (by unfold zw_at; exact ⟨fun h => absurd h zw_tb_0, fun h => absurd h (by omega)⟩)) (by omega) (by omega)
            · show V 72 [some (ZR 0), some (ZI o), some (ZI bits), some (ZI x3_5), some (ZI x4_5), some (ZI (σ 6 ((18 * o) + (6 * x4_5))))] [ZI x3_5] 41 σ
              refine zr_sipush (pc := 72) hV 256 dX12_targetsOf_72 (by decide) ?_
              refine zr_goto (pc := 75) hV 79 dX12_targetsOf_75 (by decide) ?_
              show V 79 [some (ZR 0), some (ZI o), some (ZI bits), some (ZI x3_5), some (ZI x4_5), some (ZI (σ 6 ((18 * o) + (6 * x4_5))))] [ZI 256, ZI x3_5] 41 σ
              refine zr_ior (pc := 79) hV dX12_targetsOf_79 ?_
              have t8 := zq_or_b (x := x3_5) (y := 256) 10 1024 (by decide) (by decide) (by omega) (by omega)
              refine zr_istore_n (pc := 80) hV [some (ZR 0), some (ZI o), some (ZI bits), some (ZI (zq_or x3_5 256)), some (ZI x4_5), some (ZI (σ 6 ((18 * o) + (6 * x4_5))))] dX12_targetsOf_80 rfl (by decide) rfl rfl ?_
              refine zr_iinc (pc := 81) hV [some (ZR 0), some (ZI o), some (ZI bits), some (ZI (zq_or x3_5 256)), some (ZI (x4_5 + 1)), some (ZI (σ 6 ((18 * o) + (6 * x4_5))))] (x4_5 + 1) dX12_targetsOf_81 rfl rfl (by decide) rfl rfl ?_
              refine zr_goto (pc := 84) hV 5 dX12_targetsOf_84 (by decide) ?_
              refine zr_sub (pc := 5) hV [some (ZR 0), some (ZI o), some (ZI bits), some (ZI (zq_or x3_5 256)), some (ZI (x4_5 + 1)), none] (⟨rfl, rfl, rfl, rfl, rfl, trivial⟩) ?_
              exact ih5 (zq_or x3_5 256) (x4_5 + 1) (by omega) (by omega) (fun i => by rw [zw_ts_s (by omega)]; rw [zw_tb_or (by omega) (by omega), hi5_0 i, zw_tb_2 8 (by decide)]; exact or_congr Iff.rfl (by unfold zw_at; omega)) (by omega) (by omega)
          · show V 59 [some (ZR 0), some (ZI o), some (ZI bits), some (ZI x3_5), some (ZI x4_5), some (ZI (σ 6 ((18 * o) + (6 * x4_5))))] [ZI x3_5] 41 σ
            refine zr_sipush (pc := 59) hV 512 dX12_targetsOf_59 (by decide) ?_
            refine zr_goto (pc := 62) hV 79 dX12_targetsOf_62 (by decide) ?_
            show V 79 [some (ZR 0), some (ZI o), some (ZI bits), some (ZI x3_5), some (ZI x4_5), some (ZI (σ 6 ((18 * o) + (6 * x4_5))))] [ZI 512, ZI x3_5] 41 σ
            refine zr_ior (pc := 79) hV dX12_targetsOf_79 ?_
            have t9 := zq_or_b (x := x3_5) (y := 512) 10 1024 (by decide) (by decide) (by omega) (by omega)
            refine zr_istore_n (pc := 80) hV [some (ZR 0), some (ZI o), some (ZI bits), some (ZI (zq_or x3_5 512)), some (ZI x4_5), some (ZI (σ 6 ((18 * o) + (6 * x4_5))))] dX12_targetsOf_80 rfl (by decide) rfl rfl ?_
            refine zr_iinc (pc := 81) hV [some (ZR 0), some (ZI o), some (ZI bits), some (ZI (zq_or x3_5 512)), some (ZI (x4_5 + 1)), some (ZI (σ 6 ((18 * o) + (6 * x4_5))))] (x4_5 + 1) dX12_targetsOf_81 rfl rfl (by decide) rfl rfl ?_
            refine zr_goto (pc := 84) hV 5 dX12_targetsOf_84 (by decide) ?_
            refine zr_sub (pc := 5) hV [some (ZR 0), some (ZI o), some (ZI bits), some (ZI (zq_or x3_5 512)), some (ZI (x4_5 + 1)), none] (⟨rfl, rfl, rfl, rfl, rfl, trivial⟩) ?_
            exact ih5 (zq_or x3_5 512) (x4_5 + 1) (by omega) (by omega) (fun i => by rw [zw_ts_s (by omega)]; rw [zw_tb_or (by omega) (by omega), hi5_0 i, zw_tb_2 9 (by decide)]; exact or_congr Iff.rfl (by unfold zw_at; omega)) (by omega) (by omega)
        · show V 40 [some (ZR 0), some (ZI o), some (ZI bits), some (ZI x3_5), some (ZI x4_5), some (ZI (σ 6 ((18 * o) + (6 * x4_5))))] [ZI x3_5] 41 σ
          refine zr_iconst (pc := 40) hV 1 dX12_targetsOf_40 rfl ?_
          refine zr_aload_n (pc := 41) hV dX12_targetsOf_41 rfl rfl ?_
          refine zr_iload_n (pc := 42) hV dX12_targetsOf_42 rfl rfl ?_
          refine zr_iload_n (pc := 43) hV dX12_targetsOf_43 rfl rfl ?_
          refine zr_iload (pc := 44) hV dX12_targetsOf_44 rfl ?_
          refine zr_callVp (pc := 46) hV [ZI o, ZI bits, ZI (σ 6 ((18 * o) + (6 * x4_5)))] (st := [ZI 1, ZI x3_5]) (c_X12_fieldOf2 (σ := σ) hσ o bits (σ 6 ((18 * o) + (6 * x4_5))) (by omega) (by omega) (by omega) q2) dX12_targetsOf_46 mX12_289 rfl (by decide) (by decide) (Nat.le_of_ble_eq_true rfl) (Nat.le_refl _) (fun r46 hr46 pr46 => ?_)
          refine zr_ishl (pc := 49) hV dX12_targetsOf_49 ?_
          have t10 := zx_shl_one (y := r46) 7 128 (by decide) (by decide) (by omega)
          refine zr_goto (pc := 50) hV 79 dX12_targetsOf_50 (by decide) ?_
          show V 79 [some (ZR 0), some (ZI o), some (ZI bits), some (ZI x3_5), some (ZI x4_5), some (ZI (σ 6 ((18 * o) + (6 * x4_5))))] [ZI (zq_shl 1 r46), ZI x3_5] 41 σ
          refine zr_ior (pc := 79) hV dX12_targetsOf_79 ?_
          have t11 := zq_or_b (x := x3_5) (y := zq_shl 1 r46) 10 1024 (by decide) (by decide) (by omega) (by omega)
          refine zr_istore_n (pc := 80) hV [some (ZR 0), some (ZI o), some (ZI bits), some (ZI (zq_or x3_5 (zq_shl 1 r46))), some (ZI x4_5), some (ZI (σ 6 ((18 * o) + (6 * x4_5))))] dX12_targetsOf_80 rfl (by decide) rfl rfl ?_
          refine zr_iinc (pc := 81) hV [some (ZR 0), some (ZI o), some (ZI bits), some (ZI (zq_or x3_5 (zq_shl 1 r46))), some (ZI (x4_5 + 1)), some (ZI (σ 6 ((18 * o) + (6 * x4_5))))] (x4_5 + 1) dX12_targetsOf_81 rfl rfl (by decide) rfl rfl ?_
          refine zr_goto (pc := 84) hV 5 dX12_targetsOf_84 (by decide) ?_
          refine zr_sub (pc := 5) hV [some (ZR 0), some (ZI o), some (ZI bits), some (ZI (zq_or x3_5 (zq_shl 1 r46))), some (ZI (x4_5 + 1)), none] (⟨rfl, rfl, rfl, rfl, rfl, trivial⟩) ?_
          exact ih5 (zq_or x3_5 (zq_shl 1 r46)) (x4_5 + 1) (by omega) (by omega) (fun i => by rw [zw_ts_s (by omega)]; have b7 : 0 ≤ r46 ∧ r46 ≤ 7 := (by omega); have z7 := zq_shl_one (y := r46) 7 128 (by decide) (by decide) ⟨b7.1, by omega⟩; rw [zw_tb_or (by omega) (by omega), hi5_0 i, zw_tb_sh (by omega)]; exact or_congr Iff.rfl (by unfold zw_at; rw [← pr46.2.2.2]; omega)) (by omega) (by omega)
  exact L5 (3 - (0 : Int) + 1 : Int).toNat 0 0 (by omega) (by omega) (fun i => ⟨fun h => absurd h zw_tb_0, fun h => absurd h zw_ts_0⟩) (by omega) (by omega)
set_option maxHeartbeats 800000 in
theorem c_X12_usesOf2 {σ : zq_S} (hσ : zx_T σ) (o bits : Int) (q0 : 0 ≤ o ∧ o ≤ 20) (q1 : zq_in bits) (q2 : zx_A σ o) (q3 : zx_B σ o) (q4 : zq_hid (σ 3 o ≠ 0 → σ 4 o ≠ 3)) : zq_C zx_w yX12_usesOf cX12_usesOf 6 (some .int) 3 71 41 41 [ZR 0, ZI o, ZI bits] σ (zq_pp σ (fun r => 0 ≤ r ∧ r ≤ 1023 ∧ ∀ i : Nat, zw_tb r i ↔ zw_us (zu_rf σ o bits) (σ 6) (18 * o) (σ 5 o) (σ 3 o) (σ 4 o) i)) := by
  refine zq_C_of (by decide) (Nat.le_refl _) (Nat.le_of_ble_eq_true rfl) [some (ZR 0), some (ZI o), some (ZI bits), none, none, none] rfl (fun V hV => ?_)
  have z5o := zx_ga5 hσ o
  show V 0 [some (ZR 0), some (ZI o), some (ZI bits), none, none, none] [] 41 σ
  refine zr_aload_n (pc := 0) hV dX12_usesOf_0 rfl rfl ?_
  refine zr_getR (pc := 1) hV 6 3 dX12_usesOf_1 fX12_26 rfl rfl rfl (by decide) (zx_g6 hσ) (by omega) ?_
  refine zr_iload_n (pc := 4) hV dX12_usesOf_4 rfl rfl ?_
  refine zr_iald (pc := 5) hV dX12_usesOf_5 rfl (by decide) rfl (by omega) ?_
  have t1 := zx_ga3 hσ o
  have J43 : ∀ (v0_43 : Int), (0 ≤ v0_43 ∧ v0_43 ≤ 1023) → (zq_hid (∀ i : Nat, zw_tb v0_43 i ↔ (σ 3 o ≠ 0 ∧ zw_os (zu_rf σ o bits) (σ 4 o) i))) → V 43 [some (ZR 0), some (ZI o), some (ZI bits), none, none, none] [ZI v0_43] 41 σ := by
    intro v0_43 hv0_43 hi43_0
    show V 43 [some (ZR 0), some (ZI o), some (ZI bits), none, none, none] [ZI v0_43] 41 σ
    refine zr_istore_n (pc := 43) hV [some (ZR 0), some (ZI o), some (ZI bits), some (ZI v0_43), none, none] dX12_usesOf_43 rfl (by decide) rfl rfl ?_
    refine zr_iconst (pc := 44) hV 0 dX12_usesOf_44 rfl ?_
    refine zr_istore (pc := 45) hV [some (ZR 0), some (ZI o), some (ZI bits), some (ZI v0_43), some (ZI 0), none] dX12_usesOf_45 (by decide) rfl rfl ?_
    have L47 : ∀ (fuel : Nat) (x3_47 : Int) (x4_47 : Int), (0 ≤ x3_47 ∧ x3_47 ≤ 1023) → (0 ≤ x4_47 ∧ x4_47 ≤ 3) → (zq_hid (∀ i : Nat, zw_tb x3_47 i ↔ zw_us (zu_rf σ o bits) (σ 6) (18 * o) x4_47 (σ 3 o) (σ 4 o) i)) → (x4_47 ≤ σ 5 o) → 3 - x4_47 < (fuel : Int) → V 47 [some (ZR 0), some (ZI o), some (ZI bits), some (ZI x3_47), some (ZI x4_47), none] [] 41 σ := by
      intro fuel
      induction fuel with
      | zero =>
        intro x3_47 x4_47 hx3_47 hx4_47 hi47_0 hi47_1 hm47
        exfalso; omega
      | succ fuel ih =>
        intro x3_47 x4_47 hx3_47 hx4_47 hi47_0 hi47_1 hm47
        have ih47 := ih
        show V 47 [some (ZR 0), some (ZI o), some (ZI bits), some (ZI x3_47), some (ZI x4_47), none] [] 41 σ
        refine zr_iload (pc := 47) hV dX12_usesOf_47 rfl ?_
        refine zr_aload_n (pc := 49) hV dX12_usesOf_49 rfl rfl ?_
        refine zr_getR (pc := 50) hV 8 5 dX12_usesOf_50 fX12_32 rfl rfl rfl (by decide) (zx_g8 hσ) (by omega) ?_
        refine zr_iload_n (pc := 53) hV dX12_usesOf_53 rfl rfl ?_
        refine zr_iald (pc := 54) hV dX12_usesOf_54 rfl (by decide) rfl (by omega) ?_
        have t2 := zx_ga5 hσ o
        refine zr_icmp_ge (pc := 55) hV 142 dX12_usesOf_55 (by decide) (by omega) (by omega) (fun c3 => ?_) (fun c3 => ?_)
        · show V 142 [some (ZR 0), some (ZI o), some (ZI bits), some (ZI x3_47), some (ZI x4_47), none] [] 41 σ
          refine zr_iload_n (pc := 142) hV dX12_usesOf_142 rfl rfl ?_
          exact zr_iret (pc := 143) hV dX12_usesOf_143 rfl rfl ⟨rfl, _, rfl, (by omega), ⟨by omega, by omega, fun i => by rw [show σ 5 o = x4_47 by omega]; exact hi47_0 i⟩⟩
        · show V 58 [some (ZR 0), some (ZI o), some (ZI bits), some (ZI x3_47), some (ZI x4_47), none] [] 41 σ
          refine zr_bipush (pc := 58) hV 18 dX12_usesOf_58 (by decide) ?_
          refine zr_iload_n (pc := 60) hV dX12_usesOf_60 rfl rfl ?_
          refine zr_imul (pc := 61) hV dX12_usesOf_61 ?_
          refine zr_bipush (pc := 62) hV 6 dX12_usesOf_62 (by decide) ?_
          refine zr_iload (pc := 64) hV dX12_usesOf_64 rfl ?_
          refine zr_imul (pc := 66) hV dX12_usesOf_66 ?_
          refine zr_iadd (pc := 67) hV dX12_usesOf_67 ?_
          refine zr_istore (pc := 68) hV [some (ZR 0), some (ZI o), some (ZI bits), some (ZI x3_47), some (ZI x4_47), some (ZI ((18 * o) + (6 * x4_47)))] dX12_usesOf_68 (by decide) rfl rfl ?_
          refine zr_iload_n (pc := 70) hV dX12_usesOf_70 rfl rfl ?_
          refine zr_aload_n (pc := 71) hV dX12_usesOf_71 rfl rfl ?_
          refine zr_iload_n (pc := 72) hV dX12_usesOf_72 rfl rfl ?_
          refine zr_iload_n (pc := 73) hV dX12_usesOf_73 rfl rfl ?_
          refine zr_aload_n (pc := 74) hV dX12_usesOf_74 rfl rfl ?_
          refine zr_getR (pc := 75) hV 9 6 dX12_usesOf_75 fX12_35 rfl rfl rfl (by decide) (zx_g9 hσ) (by omega) ?_
          refine zr_iload (pc := 78) hV dX12_usesOf_78 rfl ?_
          refine zr_iald (pc := 80) hV dX12_usesOf_80 rfl (by decide) rfl (by omega) ?_
          have t4 := zx_ac0 hσ ((18 * o) + (6 * x4_47)) (by omega)
          refine zr_callVp (pc := 81) hV [ZI o, ZI bits, ZI (σ 6 ((18 * o) + (6 * x4_47)))] (st := [ZI x3_47]) (c_X12_inBrackets2 (σ := σ) hσ o bits (σ 6 ((18 * o) + (6 * x4_47))) (by omega) (by omega) (by omega) q3) dX12_usesOf_81 mX12_359 rfl (by decide) (by decide) (Nat.le_of_ble_eq_true rfl) (Nat.le_refl _) (fun r81 hr81 pr81 => ?_)
          refine zr_aload_n (pc := 84) hV dX12_usesOf_84 rfl rfl ?_
          refine zr_iload_n (pc := 85) hV dX12_usesOf_85 rfl rfl ?_
          refine zr_iload_n (pc := 86) hV dX12_usesOf_86 rfl rfl ?_
          refine zr_aload_n (pc := 87) hV dX12_usesOf_87 rfl rfl ?_
          refine zr_getR (pc := 88) hV 9 6 dX12_usesOf_88 fX12_35 rfl rfl rfl (by decide) (zx_g9 hσ) (by omega) ?_
          refine zr_iload (pc := 91) hV dX12_usesOf_91 rfl ?_
          refine zr_iconst (pc := 93) hV 1 dX12_usesOf_93 rfl ?_
          refine zr_iadd (pc := 94) hV dX12_usesOf_94 ?_
          refine zr_iald (pc := 95) hV dX12_usesOf_95 rfl (by decide) rfl (by omega) ?_
          have t5 := zx_ac1 hσ (((18 * o) + (6 * x4_47)) + 1) (by omega)
          refine zr_callVp (pc := 96) hV [ZI o, ZI bits, ZI (σ 6 (((18 * o) + (6 * x4_47)) + 1))] (st := [ZI r81, ZI x3_47]) (c_X12_operandOf2 (σ := σ) hσ o bits (σ 6 (((18 * o) + (6 * x4_47)) + 1)) (by omega) (by omega) (by omega) q3) dX12_usesOf_96 mX12_362 rfl (by decide) (by decide) (Nat.le_of_ble_eq_true rfl) (Nat.le_refl _) (fun r96 hr96 pr96 => ?_)
          refine zr_ior (pc := 99) hV dX12_usesOf_99 ?_
          have t6 := zq_or_b (x := r81) (y := r96) 10 1024 (by decide) (by decide) (by omega) (by omega)
          refine zr_ior (pc := 100) hV dX12_usesOf_100 ?_
          have t7 := zq_or_b (x := x3_47) (y := zq_or r81 r96) 10 1024 (by decide) (by decide) (by omega) (by omega)
          refine zr_istore_n (pc := 101) hV [some (ZR 0), some (ZI o), some (ZI bits), some (ZI (zq_or x3_47 (zq_or r81 r96))), some (ZI x4_47), some (ZI ((18 * o) + (6 * x4_47)))] dX12_usesOf_101 rfl (by decide) rfl rfl ?_
          refine zr_iload_n (pc := 102) hV dX12_usesOf_102 rfl rfl ?_
          refine zr_aload_n (pc := 103) hV dX12_usesOf_103 rfl rfl ?_
          refine zr_getR (pc := 104) hV 9 6 dX12_usesOf_104 fX12_35 rfl rfl rfl (by decide) (zx_g9 hσ) (by omega) ?_
          refine zr_iload (pc := 107) hV dX12_usesOf_107 rfl ?_
          refine zr_iconst (pc := 109) hV 3 dX12_usesOf_109 rfl ?_
          refine zr_iadd (pc := 110) hV dX12_usesOf_110 ?_
          refine zr_iald (pc := 111) hV dX12_usesOf_111 rfl (by decide) rfl (by omega) ?_
          have t8 := zx_ac3 hσ (((18 * o) + (6 * x4_47)) + 3) (by omega)
          refine zr_if_le (pc := 112) hV 133 dX12_usesOf_112 (by decide) (by omega) (fun c9 => ?_) (fun c9 => ?_)
          · show V 133 [some (ZR 0), some (ZI o), some (ZI bits), some (ZI (zq_or x3_47 (zq_or r81 r96))), some (ZI x4_47), some (ZI ((18 * o) + (6 * x4_47)))] [ZI (zq_or x3_47 (zq_or r81 r96))] 41 σ
            refine zr_iconst (pc := 133) hV 0 dX12_usesOf_133 rfl ?_
            show V 134 [some (ZR 0), some (ZI o), some (ZI bits), some (ZI (zq_or x3_47 (zq_or r81 r96))), some (ZI x4_47), some (ZI ((18 * o) + (6 * x4_47)))] [ZI 0, ZI (zq_or x3_47 (zq_or r81 r96))] 41 σ
            refine zr_ior (pc := 134) hV dX12_usesOf_134 ?_
            have t10 := zq_or_b (x := zq_or x3_47 (zq_or r81 r96)) (y := 0) 10 1024 (by decide) (by decide) (by omega) (by omega)
            refine zr_istore_n (pc := 135) hV [some (ZR 0), some (ZI o), some (ZI bits), some (ZI (zq_or (zq_or x3_47 (zq_or r81 r96)) 0)), some (ZI x4_47), some (ZI ((18 * o) + (6 * x4_47)))] dX12_usesOf_135 rfl (by decide) rfl rfl ?_
            refine zr_iinc (pc := 136) hV [some (ZR 0), some (ZI o), some (ZI bits), some (ZI (zq_or (zq_or x3_47 (zq_or r81 r96)) 0)), some (ZI (x4_47 + 1)), some (ZI ((18 * o) + (6 * x4_47)))] (x4_47 + 1) dX12_usesOf_136 rfl rfl (by decide) rfl rfl ?_
            refine zr_goto (pc := 139) hV 47 dX12_usesOf_139 (by decide) ?_
            refine zr_sub (pc := 47) hV [some (ZR 0), some (ZI o), some (ZI bits), some (ZI (zq_or (zq_or x3_47 (zq_or r81 r96)) 0)), some (ZI (x4_47 + 1)), none] (⟨rfl, rfl, rfl, rfl, rfl, trivial⟩) ?_
            exact ih47 (zq_or (zq_or x3_47 (zq_or r81 r96)) 0) (x4_47 + 1) (by omega) (by omega) (fun i => by rw [zw_us_s (by omega), zw_tb_or (by omega) (by omega), zw_tb_or (by omega) (by omega), zw_tb_or (by omega) (by omega), hi47_0 i, pr81.2.2 i, pr96.2.2 i]; exact zw_us_or ⟨fun h => absurd h.1 (by omega), fun h => absurd h zw_tb_0⟩) (by omega) (by omega)
          · show V 115 [some (ZR 0), some (ZI o), some (ZI bits), some (ZI (zq_or x3_47 (zq_or r81 r96))), some (ZI x4_47), some (ZI ((18 * o) + (6 * x4_47)))] [ZI (zq_or x3_47 (zq_or r81 r96))] 41 σ
            refine zr_aload_n (pc := 115) hV dX12_usesOf_115 rfl rfl ?_
            refine zr_iload_n (pc := 116) hV dX12_usesOf_116 rfl rfl ?_
            refine zr_iload_n (pc := 117) hV dX12_usesOf_117 rfl rfl ?_
            refine zr_aload_n (pc := 118) hV dX12_usesOf_118 rfl rfl ?_
            refine zr_getR (pc := 119) hV 9 6 dX12_usesOf_119 fX12_35 rfl rfl rfl (by decide) (zx_g9 hσ) (by omega) ?_
            refine zr_iload (pc := 122) hV dX12_usesOf_122 rfl ?_
            refine zr_iconst (pc := 124) hV 4 dX12_usesOf_124 rfl ?_
            refine zr_iadd (pc := 125) hV dX12_usesOf_125 ?_
            refine zr_iald (pc := 126) hV dX12_usesOf_126 rfl (by decide) rfl (by omega) ?_
            have t11 := zx_ac4 hσ (((18 * o) + (6 * x4_47)) + 4) (by omega)
            have za := q2 x4_47 (by omega) (by omega)
            refine zr_callVp (pc := 127) hV [ZI o, ZI bits, ZI (σ 6 (((18 * o) + (6 * x4_47)) + 4))] (st := [ZI (zq_or x3_47 (zq_or r81 r96))]) (c_X12_operandOf2 (σ := σ) hσ o bits (σ 6 (((18 * o) + (6 * x4_47)) + 4)) (by omega) (by omega) (by omega) q3) dX12_usesOf_127 mX12_362 rfl (by decide) (by decide) (Nat.le_of_ble_eq_true rfl) (Nat.le_refl _) (fun r127 hr127 pr127 => ?_)
            refine zr_goto (pc := 130) hV 134 dX12_usesOf_130 (by decide) ?_
            show V 134 [some (ZR 0), some (ZI o), some (ZI bits), some (ZI (zq_or x3_47 (zq_or r81 r96))), some (ZI x4_47), some (ZI ((18 * o) + (6 * x4_47)))] [ZI r127, ZI (zq_or x3_47 (zq_or r81 r96))] 41 σ
            refine zr_ior (pc := 134) hV dX12_usesOf_134 ?_
            have t12 := zq_or_b (x := zq_or x3_47 (zq_or r81 r96)) (y := r127) 10 1024 (by decide) (by decide) (by omega) (by omega)
            refine zr_istore_n (pc := 135) hV [some (ZR 0), some (ZI o), some (ZI bits), some (ZI (zq_or (zq_or x3_47 (zq_or r81 r96)) r127)), some (ZI x4_47), some (ZI ((18 * o) + (6 * x4_47)))] dX12_usesOf_135 rfl (by decide) rfl rfl ?_
            refine zr_iinc (pc := 136) hV [some (ZR 0), some (ZI o), some (ZI bits), some (ZI (zq_or (zq_or x3_47 (zq_or r81 r96)) r127)), some (ZI (x4_47 + 1)), some (ZI ((18 * o) + (6 * x4_47)))] (x4_47 + 1) dX12_usesOf_136 rfl rfl (by decide) rfl rfl ?_
            refine zr_goto (pc := 139) hV 47 dX12_usesOf_139 (by decide) ?_
            refine zr_sub (pc := 47) hV [some (ZR 0), some (ZI o), some (ZI bits), some (ZI (zq_or (zq_or x3_47 (zq_or r81 r96)) r127)), some (ZI (x4_47 + 1)), none] (⟨rfl, rfl, rfl, rfl, rfl, trivial⟩) ?_
            exact ih47 (zq_or (zq_or x3_47 (zq_or r81 r96)) r127) (x4_47 + 1) (by omega) (by omega) (fun i => by rw [zw_us_s (by omega), zw_tb_or (by omega) (by omega), zw_tb_or (by omega) (by omega), zw_tb_or (by omega) (by omega), hi47_0 i, pr81.2.2 i, pr96.2.2 i, pr127.2.2 i]; exact zw_us_or ⟨fun h => h.2, fun h => ⟨by omega, h⟩⟩) (by omega) (by omega)
    exact L47 (3 - (0 : Int) + 1 : Int).toNat v0_43 0 (by omega) (by omega) (fun i => by rw [zw_us_0]; exact hi43_0 i) (by omega) (by omega)
  refine zr_if_ne (pc := 6) hV 13 dX12_usesOf_6 (by decide) (by omega) (fun c13 => ?_) (fun c13 => ?_)
  · show V 13 [some (ZR 0), some (ZI o), some (ZI bits), none, none, none] [] 41 σ
    refine zr_aload_n (pc := 13) hV dX12_usesOf_13 rfl rfl ?_
    refine zr_getR (pc := 14) hV 7 4 dX12_usesOf_14 fX12_29 rfl rfl rfl (by decide) (zx_g7 hσ) (by omega) ?_
    refine zr_iload_n (pc := 17) hV dX12_usesOf_17 rfl rfl ?_
    refine zr_iald (pc := 18) hV dX12_usesOf_18 rfl (by decide) rfl (by omega) ?_
    have t14 := zx_ga4 hσ o
    refine zr_iconst (pc := 19) hV 4 dX12_usesOf_19 rfl ?_
    refine zr_icmp_ne (pc := 20) hV 29 dX12_usesOf_20 (by decide) (by omega) ⟨by decide, by decide⟩ (fun c15 => ?_) (fun c15 => ?_)
    · show V 29 [some (ZR 0), some (ZI o), some (ZI bits), none, none, none] [] 41 σ
      refine zr_iconst (pc := 29) hV 1 dX12_usesOf_29 rfl ?_
      refine zr_aload_n (pc := 30) hV dX12_usesOf_30 rfl rfl ?_
      refine zr_iload_n (pc := 31) hV dX12_usesOf_31 rfl rfl ?_
      refine zr_iload_n (pc := 32) hV dX12_usesOf_32 rfl rfl ?_
      refine zr_aload_n (pc := 33) hV dX12_usesOf_33 rfl rfl ?_
      refine zr_getR (pc := 34) hV 7 4 dX12_usesOf_34 fX12_29 rfl rfl rfl (by decide) (zx_g7 hσ) (by omega) ?_
      refine zr_iload_n (pc := 37) hV dX12_usesOf_37 rfl rfl ?_
      refine zr_iald (pc := 38) hV dX12_usesOf_38 rfl (by decide) rfl (by omega) ?_
      have t16 := zx_ga4 hσ o
      have g3 := q4 (by omega)
      refine zr_callVp (pc := 39) hV [ZI o, ZI bits, ZI (σ 4 o)] (st := [ZI 1]) (c_X12_fieldOf2 (σ := σ) hσ o bits (σ 4 o) (by omega) (by omega) (by omega) q3) dX12_usesOf_39 mX12_289 rfl (by decide) (by decide) (Nat.le_of_ble_eq_true rfl) (Nat.le_refl _) (fun r39 hr39 pr39 => ?_)
      refine zr_ishl (pc := 42) hV dX12_usesOf_42 ?_
      have t17 := zx_shl_one (y := r39) 7 128 (by decide) (by decide) (by omega)
      exact J43 (zq_shl 1 r39) (by omega) (fun i => by have b7 : 0 ≤ r39 ∧ r39 ≤ 7 := (by omega); have z7 := zq_shl_one (y := r39) 7 128 (by decide) (by decide) ⟨b7.1, by omega⟩; rw [zw_tb_sh (by omega)]; unfold zw_os; rw [← pr39.2.2.2]; omega)
    · show V 23 [some (ZR 0), some (ZI o), some (ZI bits), none, none, none] [] 41 σ
      refine zr_sipush (pc := 23) hV 512 dX12_usesOf_23 (by decide) ?_
      refine zr_goto (pc := 26) hV 43 dX12_usesOf_26 (by decide) ?_
      exact J43 512 (by omega) (fun i => by rw [zw_tb_2 9 (by decide)]; unfold zw_os; omega)
  · show V 9 [some (ZR 0), some (ZI o), some (ZI bits), none, none, none] [] 41 σ
    refine zr_iconst (pc := 9) hV 0 dX12_usesOf_9 rfl ?_
    refine zr_goto (pc := 10) hV 43 dX12_usesOf_10 (by decide) ?_
    exact J43 0 (by omega) (fun i => ⟨fun h => absurd h zw_tb_0, fun h => absurd h.1 (by omega)⟩)
