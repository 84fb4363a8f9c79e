set_option maxHeartbeats 800000 in
theorem c_X12_addressOf {σ : zq_S} (hσ : zx_T σ) (o bits what : Int) (q0 : 0 ≤ o ∧ o ≤ 20) (q1 : zq_in bits) (q2 : 6 ≤ what ∧ what ≤ 9) (q3 : zx_B σ o) : zq_C zx_w yX12_addressOf cX12_addressOf 5 (some .int) 1 25 41 41 [ZR 0, ZI o, ZI bits, ZI what] σ (zq_pp σ (fun r => 0 ≤ r ∧ r ≤ 255)) := by
  refine zq_C_of (by decide) (Nat.le_refl _) (Nat.le_of_ble_eq_true rfl) [some (ZR 0), some (ZI o), some (ZI bits), some (ZI what), none] rfl (fun V hV => ?_)
  show V 0 [some (ZR 0), some (ZI o), some (ZI bits), some (ZI what), none] [] 41 σ
  refine zr_aload_n (pc := 0) hV dX12_addressOf_0 rfl rfl ?_
  refine zr_iload_n (pc := 1) hV dX12_addressOf_1 rfl rfl ?_
  refine zr_iload_n (pc := 2) hV dX12_addressOf_2 rfl rfl ?_
  refine zr_iload_n (pc := 3) hV dX12_addressOf_3 rfl rfl ?_
  refine zr_bipush (pc := 4) hV 6 dX12_addressOf_4 (by decide) ?_
  refine zr_isub (pc := 6) hV dX12_addressOf_6 ?_
  refine zr_callVp (pc := 7) hV [ZI o, ZI bits, ZI (what - 6)] (st := []) (c_X12_fieldOf (σ := σ) hσ o bits (what - 6) (by omega) (by omega) (by omega) q3) dX12_addressOf_7 mX12_289 rfl (by decide) (by decide) (Nat.le_of_ble_eq_true rfl) (Nat.le_refl _) (fun r7 hr7 pr7 => ?_)
  refine zr_istore (pc := 10) hV [some (ZR 0), some (ZI o), some (ZI bits), some (ZI what), some (ZI r7)] dX12_addressOf_10 (by decide) rfl rfl ?_
  refine zr_iload_n (pc := 12) hV dX12_addressOf_12 rfl rfl ?_
  refine zr_bipush (pc := 13) hV 9 dX12_addressOf_13 (by decide) ?_
  refine zr_icmp_ne (pc := 15) hV 23 dX12_addressOf_15 (by decide) (by omega) ⟨by decide, by decide⟩ (fun c1 => ?_) (fun c1 => ?_)
  · show V 23 [some (ZR 0), some (ZI o), some (ZI bits), some (ZI what), some (ZI r7)] [] 41 σ
    refine zr_aload_n (pc := 23) hV dX12_addressOf_23 rfl rfl ?_
    refine zr_getR (pc := 24) hV 24 15 dX12_addressOf_24 fX12_62 rfl rfl rfl (by decide) (zx_g24 hσ) (by omega) ?_
    refine zr_iload (pc := 27) hV dX12_addressOf_27 rfl ?_
    refine zr_iald (pc := 29) hV dX12_addressOf_29 rfl (by decide) rfl (by omega) ?_
    have t2 := zx_stW hσ r7 (by omega)
    show V 30 [some (ZR 0), some (ZI o), some (ZI bits), some (ZI what), some (ZI r7)] [ZI (σ 15 r7)] 41 σ
    exact zr_iret (pc := 30) hV dX12_addressOf_30 rfl rfl ⟨rfl, _, rfl, (by omega), (by omega)⟩
  · show V 18 [some (ZR 0), some (ZI o), some (ZI bits), some (ZI what), some (ZI r7)] [] 41 σ
    refine zr_iload (pc := 18) hV dX12_addressOf_18 rfl ?_
    refine zr_goto (pc := 20) hV 30 dX12_addressOf_20 (by decide) ?_
    show V 30 [some (ZR 0), some (ZI o), some (ZI bits), some (ZI what), some (ZI r7)] [ZI r7] 41 σ
    exact zr_iret (pc := 30) hV dX12_addressOf_30 rfl rfl ⟨rfl, _, rfl, (by omega), (by omega)⟩
set_option maxHeartbeats 800000 in
theorem c_X12_valueOf {σ : zq_S} (hσ : zx_T σ) (o bits what number : Int) (q0 : 0 ≤ o ∧ o ≤ 20) (q1 : zq_in bits) (q2 : 0 ≤ what ∧ what ≤ 10) (q3 : zq_in number) (q4 : zx_B σ o) : zq_C zx_w yX12_valueOf cX12_valueOf 5 (some .int) 2 49 41 41 [ZR 0, ZI o, ZI bits, ZI what, ZI number] σ (zq_pp σ (fun r => 0 ≤ r ∧ r ≤ 255)) := by
  refine zq_C_of (by decide) (Nat.le_refl _) (Nat.le_of_ble_eq_true rfl) [some (ZR 0), some (ZI o), some (ZI bits), some (ZI what), some (ZI number)] rfl (fun V hV => ?_)
  show V 0 [some (ZR 0), some (ZI o), some (ZI bits), some (ZI what), some (ZI number)] [] 41 σ
  refine zr_iload_n (pc := 0) hV dX12_valueOf_0 rfl rfl ?_
  refine zr_iconst (pc := 1) hV 3 dX12_valueOf_1 rfl ?_
  refine zr_icmp_ge (pc := 2) hV 18 dX12_valueOf_2 (by decide) (by omega) ⟨by decide, by decide⟩ (fun c1 => ?_) (fun c1 => ?_)
  · show V 18 [some (ZR 0), some (ZI o), some (ZI bits), some (ZI what), some (ZI number)] [] 41 σ
    refine zr_iload_n (pc := 18) hV dX12_valueOf_18 rfl rfl ?_
    refine zr_iconst (pc := 19) hV 3 dX12_valueOf_19 rfl ?_
    refine zr_icmp_ne (pc := 20) hV 31 dX12_valueOf_20 (by decide) (by omega) ⟨by decide, by decide⟩ (fun c2 => ?_) (fun c2 => ?_)
    · show V 31 [some (ZR 0), some (ZI o), some (ZI bits), some (ZI what), some (ZI number)] [] 41 σ
      refine zr_iload_n (pc := 31) hV dX12_valueOf_31 rfl rfl ?_
      refine zr_iconst (pc := 32) hV 4 dX12_valueOf_32 rfl ?_
      refine zr_icmp_ne (pc := 33) hV 45 dX12_valueOf_33 (by decide) (by omega) ⟨by decide, by decide⟩ (fun c3 => ?_) (fun c3 => ?_)
      · show V 45 [some (ZR 0), some (ZI o), some (ZI bits), some (ZI what), some (ZI number)] [] 41 σ
        refine zr_iload_n (pc := 45) hV dX12_valueOf_45 rfl rfl ?_
        refine zr_iconst (pc := 46) hV 5 dX12_valueOf_46 rfl ?_
        refine zr_icmp_ne (pc := 47) hV 64 dX12_valueOf_47 (by decide) (by omega) ⟨by decide, by decide⟩ (fun c4 => ?_) (fun c4 => ?_)
        · show V 64 [some (ZR 0), some (ZI o), some (ZI bits), some (ZI what), some (ZI number)] [] 41 σ
          refine zr_iload_n (pc := 64) hV dX12_valueOf_64 rfl rfl ?_
          refine zr_bipush (pc := 65) hV 10 dX12_valueOf_65 (by decide) ?_
          refine zr_icmp_ne (pc := 67) hV 80 dX12_valueOf_67 (by decide) (by omega) ⟨by decide, by decide⟩ (fun c5 => ?_) (fun c5 => ?_)
          · show V 80 [some (ZR 0), some (ZI o), some (ZI bits), some (ZI what), some (ZI number)] [] 41 σ
            refine zr_aload_n (pc := 80) hV dX12_valueOf_80 rfl rfl ?_
            refine zr_getR (pc := 81) hV 24 15 dX12_valueOf_81 fX12_62 rfl rfl rfl (by decide) (zx_g24 hσ) (by omega) ?_
            refine zr_bipush (pc := 84) hV 8 dX12_valueOf_84 (by decide) ?_
            refine zr_aload_n (pc := 86) hV dX12_valueOf_86 rfl rfl ?_
            refine zr_iload_n (pc := 87) hV dX12_valueOf_87 rfl rfl ?_
            refine zr_iload_n (pc := 88) hV dX12_valueOf_88 rfl rfl ?_
            refine zr_iload_n (pc := 89) hV dX12_valueOf_89 rfl rfl ?_
            refine zr_callVp (pc := 90) hV [ZI o, ZI bits, ZI what] (st := [ZI 8, ZR 15]) (c_X12_addressOf (σ := σ) hσ o bits what (by omega) (by omega) (by omega) q4) dX12_valueOf_90 mX12_352 rfl (by decide) (by decide) (Nat.le_of_ble_eq_true rfl) (Nat.le_refl _) (fun r90 hr90 pr90 => ?_)
            refine zr_iadd (pc := 93) hV dX12_valueOf_93 ?_
            refine zr_iald (pc := 94) hV dX12_valueOf_94 rfl (by decide) rfl (by omega) ?_
            have t6 := zx_stW hσ (8 + r90) (by omega)
            show V 95 [some (ZR 0), some (ZI o), some (ZI bits), some (ZI what), some (ZI number)] [ZI (σ 15 (8 + r90))] 41 σ
            exact zr_iret (pc := 95) hV dX12_valueOf_95 rfl rfl ⟨rfl, _, rfl, (by omega), (by omega)⟩
          · show V 70 [some (ZR 0), some (ZI o), some (ZI bits), some (ZI what), some (ZI number)] [] 41 σ
            refine zr_iload (pc := 70) hV dX12_valueOf_70 rfl ?_
            refine zr_aload_n (pc := 72) hV dX12_valueOf_72 rfl rfl ?_
            refine zr_callVp (pc := 73) hV [] (st := [ZI number]) (c_X12_mask (σ := σ) hσ ) dX12_valueOf_73 mX12_346 rfl (by decide) (by decide) (Nat.le_of_ble_eq_true rfl) (Nat.le_refl _) (fun r73 hr73 pr73 => ?_)
            refine zr_iand (pc := 76) hV dX12_valueOf_76 ?_
            have t7 := zq_and_nnR (x := number) (y := r73) (by omega)
            refine zr_goto (pc := 77) hV 95 dX12_valueOf_77 (by decide) ?_
            show V 95 [some (ZR 0), some (ZI o), some (ZI bits), some (ZI what), some (ZI number)] [ZI (zq_and number r73)] 41 σ
            exact zr_iret (pc := 95) hV dX12_valueOf_95 rfl rfl ⟨rfl, _, rfl, (by omega), (by omega)⟩
        · show V 50 [some (ZR 0), some (ZI o), some (ZI bits), some (ZI what), some (ZI number)] [] 41 σ
          refine zr_aload_n (pc := 50) hV dX12_valueOf_50 rfl rfl ?_
          refine zr_getR (pc := 51) hV 24 15 dX12_valueOf_51 fX12_62 rfl rfl rfl (by decide) (zx_g24 hσ) (by omega) ?_
          refine zr_sipush (pc := 54) hV 265 dX12_valueOf_54 (by decide) ?_
          refine zr_iald (pc := 57) hV dX12_valueOf_57 rfl (by decide) rfl (by omega) ?_
          have t8 := zx_stP hσ
          refine zr_aload_n (pc := 58) hV dX12_valueOf_58 rfl rfl ?_
          refine zr_callVp (pc := 59) hV [] (st := [ZI (σ 15 265)]) (c_X12_mask (σ := σ) hσ ) dX12_valueOf_59 mX12_346 rfl (by decide) (by decide) (Nat.le_of_ble_eq_true rfl) (Nat.le_refl _) (fun r59 hr59 pr59 => ?_)
          refine zr_iand (pc := 62) hV dX12_valueOf_62 ?_
          have t9 := zq_and_nnR (x := σ 15 265) (y := r59) (by omega)
          exact zr_iret (pc := 63) hV dX12_valueOf_63 rfl rfl ⟨rfl, _, rfl, (by omega), (by omega)⟩
      · show V 36 [some (ZR 0), some (ZI o), some (ZI bits), some (ZI what), some (ZI number)] [] 41 σ
        refine zr_aload_n (pc := 36) hV dX12_valueOf_36 rfl rfl ?_
        refine zr_getR (pc := 37) hV 24 15 dX12_valueOf_37 fX12_62 rfl rfl rfl (by decide) (zx_g24 hσ) (by omega) ?_
        refine zr_sipush (pc := 40) hV 264 dX12_valueOf_40 (by decide) ?_
        refine zr_iald (pc := 43) hV dX12_valueOf_43 rfl (by decide) rfl (by omega) ?_
        have t10 := zx_stZ hσ
        exact zr_iret (pc := 44) hV dX12_valueOf_44 rfl rfl ⟨rfl, _, rfl, (by omega), (by omega)⟩
    · show V 23 [some (ZR 0), some (ZI o), some (ZI bits), some (ZI what), some (ZI number)] [] 41 σ
      refine zr_aload_n (pc := 23) hV dX12_valueOf_23 rfl rfl ?_
      refine zr_iload_n (pc := 24) hV dX12_valueOf_24 rfl rfl ?_
      refine zr_iload_n (pc := 25) hV dX12_valueOf_25 rfl rfl ?_
      refine zr_iconst (pc := 26) hV 3 dX12_valueOf_26 rfl ?_
      refine zr_callVp (pc := 27) hV [ZI o, ZI bits, ZI 3] (st := []) (c_X12_fieldOf (σ := σ) hσ o bits 3 (by omega) (by omega) (by omega) q4) dX12_valueOf_27 mX12_289 rfl (by decide) (by decide) (Nat.le_of_ble_eq_true rfl) (Nat.le_refl _) (fun r27 hr27 pr27 => ?_)
      exact zr_iret (pc := 30) hV dX12_valueOf_30 rfl rfl ⟨rfl, _, rfl, (by omega), (by omega)⟩
  · show V 5 [some (ZR 0), some (ZI o), some (ZI bits), some (ZI what), some (ZI number)] [] 41 σ
    refine zr_aload_n (pc := 5) hV dX12_valueOf_5 rfl rfl ?_
    refine zr_getR (pc := 6) hV 24 15 dX12_valueOf_6 fX12_62 rfl rfl rfl (by decide) (zx_g24 hσ) (by omega) ?_
    refine zr_aload_n (pc := 9) hV dX12_valueOf_9 rfl rfl ?_
    refine zr_iload_n (pc := 10) hV dX12_valueOf_10 rfl rfl ?_
    refine zr_iload_n (pc := 11) hV dX12_valueOf_11 rfl rfl ?_
    refine zr_iload_n (pc := 12) hV dX12_valueOf_12 rfl rfl ?_
    refine zr_callVp (pc := 13) hV [ZI o, ZI bits, ZI what] (st := [ZR 15]) (c_X12_fieldOf (σ := σ) hσ o bits what (by omega) (by omega) (by omega) q4) dX12_valueOf_13 mX12_289 rfl (by decide) (by decide) (Nat.le_of_ble_eq_true rfl) (Nat.le_refl _) (fun r13 hr13 pr13 => ?_)
    refine zr_iald (pc := 16) hV dX12_valueOf_16 rfl (by decide) rfl (by omega) ?_
    have t11 := zx_stW hσ r13 (by omega)
    exact zr_iret (pc := 17) hV dX12_valueOf_17 rfl rfl ⟨rfl, _, rfl, (by omega), (by omega)⟩
set_option maxHeartbeats 800000 in
theorem c_X12_doOrder {σ : zq_S} (hσ : zx_T σ) (o bits : Int) (q0 : 0 ≤ o ∧ o ≤ 20) (q1 : zq_in bits) (q2 : zx_A σ o) (q3 : zx_B σ o) : zq_C zx_w yX12_doOrder cX12_doOrder 9 (none) 3 73 41 41 [ZR 0, ZI o, ZI bits] σ (zq_pv (fun τ => zx_T τ ∧ (∀ a i : Int, (a ≠ 15) → τ a i = σ a i) ∧ (True))) := by
  refine zq_C_of (by decide) (Nat.le_refl _) (Nat.le_of_ble_eq_true rfl) [some (ZR 0), some (ZI o), some (ZI bits), none, none, none, none, none, none] rfl (fun V hV => ?_)
  show V 0 [some (ZR 0), some (ZI o), some (ZI bits), none, none, none, none, none, none] [] 41 σ
  refine zr_aload_n (pc := 0) hV dX12_doOrder_0 rfl rfl ?_
  refine zr_getR (pc := 1) hV 6 3 dX12_doOrder_1 fX12_26 rfl rfl rfl (by decide) (zx_g6 hσ) (by omega) ?_
  refine zr_iload_n (pc := 4) hV dX12_doOrder_4 rfl rfl ?_
  refine zr_iald (pc := 5) hV dX12_doOrder_5 rfl (by decide) rfl (by omega) ?_
  have t1 := zx_ga3 hσ o
  refine zr_if_le (pc := 6) hV 76 dX12_doOrder_6 (by decide) (by omega) (fun c2 => ?_) (fun c2 => ?_)
  · show V 76 [some (ZR 0), some (ZI o), some (ZI bits), none, none, none, none, none, none] [] 41 σ
    refine zr_iconst (pc := 76) hV 0 dX12_doOrder_76 rfl ?_
    refine zr_istore_n (pc := 77) hV [some (ZR 0), some (ZI o), some (ZI bits), some (ZI 0), none, none, none, none, none] dX12_doOrder_77 rfl (by decide) rfl rfl ?_
    have L78 : ∀ (fuel : Nat) (x3_78 : Int) (σ_78 : zq_S), (0 ≤ x3_78 ∧ x3_78 ≤ 3) → (zx_T σ_78) → (∀ a i : Int, (a ≠ 15) → σ_78 a i = σ a i) → 3 - x3_78 < (fuel : Int) → V 78 [some (ZR 0), some (ZI o), some (ZI bits), some (ZI x3_78), none, none, none, none, none] [] 41 σ_78 := by
      intro fuel
      induction fuel with
      | zero =>
        intro x3_78 σ_78 hx3_78 hσ_78 hFσ_78 hm78
        exfalso; omega
      | succ fuel ih =>
        intro x3_78 σ_78 hx3_78 hσ_78 hFσ_78 hm78
        have ih78 := ih
        show V 78 [some (ZR 0), some (ZI o), some (ZI bits), some (ZI x3_78), none, none, none, none, none] [] 41 σ_78
        refine zr_iload_n (pc := 78) hV dX12_doOrder_78 rfl rfl ?_
        refine zr_aload_n (pc := 79) hV dX12_doOrder_79 rfl rfl ?_
        refine zr_getR (pc := 80) hV 8 5 dX12_doOrder_80 fX12_32 rfl rfl rfl (by decide) (zx_g8 hσ_78) (by omega) ?_
        refine zr_iload_n (pc := 83) hV dX12_doOrder_83 rfl rfl ?_
        refine zr_iald (pc := 84) hV dX12_doOrder_84 rfl (by decide) rfl (by omega) ?_
        have t3 := zx_ga5 hσ_78 o
        have t4 : σ_78 5 o = σ 5 o := hFσ_78 _ _ (by omega)
        refine zr_icmp_ge (pc := 85) hV 296 dX12_doOrder_85 (by decide) (by omega) (by omega) (fun c5 => ?_) (fun c5 => ?_)
        · show V 296 [some (ZR 0), some (ZI o), some (ZI bits), some (ZI x3_78), none, none, none, none, none] [] 41 σ_78
          exact zr_vret (pc := 296) hV dX12_doOrder_296 rfl rfl ⟨rfl, hσ_78, hFσ_78, trivial⟩
        · show V 88 [some (ZR 0), some (ZI o), some (ZI bits), some (ZI x3_78), none, none, none, none, none] [] 41 σ_78
          refine zr_bipush (pc := 88) hV 18 dX12_doOrder_88 (by decide) ?_
          refine zr_iload_n (pc := 90) hV dX12_doOrder_90 rfl rfl ?_
          refine zr_imul (pc := 91) hV dX12_doOrder_91 ?_
          refine zr_bipush (pc := 92) hV 6 dX12_doOrder_92 (by decide) ?_
          refine zr_iload_n (pc := 94) hV dX12_doOrder_94 rfl rfl ?_
          refine zr_imul (pc := 95) hV dX12_doOrder_95 ?_
          refine zr_iadd (pc := 96) hV dX12_doOrder_96 ?_
          refine zr_istore (pc := 97) hV [some (ZR 0), some (ZI o), some (ZI bits), some (ZI x3_78), some (ZI ((18 * o) + (6 * x3_78))), none, none, none, none] dX12_doOrder_97 (by decide) rfl rfl ?_
          refine zr_aload_n (pc := 99) hV dX12_doOrder_99 rfl rfl ?_
          refine zr_iload_n (pc := 100) hV dX12_doOrder_100 rfl rfl ?_
          refine zr_iload_n (pc := 101) hV dX12_doOrder_101 rfl rfl ?_
          refine zr_aload_n (pc := 102) hV dX12_doOrder_102 rfl rfl ?_
          refine zr_getR (pc := 103) hV 9 6 dX12_doOrder_103 fX12_35 rfl rfl rfl (by decide) (zx_g9 hσ_78) (by omega) ?_
          refine zr_iload (pc := 106) hV dX12_doOrder_106 rfl ?_
          refine zr_iconst (pc := 108) hV 1 dX12_doOrder_108 rfl ?_
          refine zr_iadd (pc := 109) hV dX12_doOrder_109 ?_
          refine zr_iald (pc := 110) hV dX12_doOrder_110 rfl (by decide) rfl (by omega) ?_
          have t6 := zx_ac1 hσ_78 (((18 * o) + (6 * x3_78)) + 1) (by omega)
          have t7 : σ_78 6 (((18 * o) + (6 * x3_78)) + 1) = σ 6 (((18 * o) + (6 * x3_78)) + 1) := hFσ_78 _ _ (by omega)
          refine zr_aload_n (pc := 111) hV dX12_doOrder_111 rfl rfl ?_
          refine zr_getR (pc := 112) hV 9 6 dX12_doOrder_112 fX12_35 rfl rfl rfl (by decide) (zx_g9 hσ_78) (by omega) ?_
          refine zr_iload (pc := 115) hV dX12_doOrder_115 rfl ?_
          refine zr_iconst (pc := 117) hV 2 dX12_doOrder_117 rfl ?_
          refine zr_iadd (pc := 118) hV dX12_doOrder_118 ?_
          refine zr_iald (pc := 119) hV dX12_doOrder_119 rfl (by decide) rfl (by omega) ?_
          have t8 := zx_ac hσ_78 (((18 * o) + (6 * x3_78)) + 2)
          have t9 : σ_78 6 (((18 * o) + (6 * x3_78)) + 2) = σ 6 (((18 * o) + (6 * x3_78)) + 2) := hFσ_78 _ _ (by omega)
          refine zr_callVp (pc := 120) hV [ZI o, ZI bits, ZI (σ_78 6 (((18 * o) + (6 * x3_78)) + 1)), ZI (σ_78 6 (((18 * o) + (6 * x3_78)) + 2))] (st := []) (c_X12_valueOf (σ := σ_78) hσ_78 o bits (σ_78 6 (((18 * o) + (6 * x3_78)) + 1)) (σ_78 6 (((18 * o) + (6 * x3_78)) + 2)) (by omega) (by omega) (by omega) (by omega) (zx_B_fr (fun i => hFσ_78 2 i (by omega)) (hFσ_78 0 2 (by omega)) q3)) dX12_doOrder_120 mX12_355 rfl (by decide) (by decide) (Nat.le_of_ble_eq_true rfl) (Nat.le_refl _) (fun r120 hr120 pr120 => ?_)
          refine zr_istore (pc := 123) hV [some (ZR 0), some (ZI o), some (ZI bits), some (ZI x3_78), some (ZI ((18 * o) + (6 * x3_78))), some (ZI r120), none, none, none] dX12_doOrder_123 (by decide) rfl rfl ?_
          refine zr_aload_n (pc := 125) hV dX12_doOrder_125 rfl rfl ?_
          refine zr_getR (pc := 126) hV 9 6 dX12_doOrder_126 fX12_35 rfl rfl rfl (by decide) (zx_g9 hσ_78) (by omega) ?_
          refine zr_iload (pc := 129) hV dX12_doOrder_129 rfl ?_
          refine zr_iconst (pc := 131) hV 3 dX12_doOrder_131 rfl ?_
          refine zr_iadd (pc := 132) hV dX12_doOrder_132 ?_
          refine zr_iald (pc := 133) hV dX12_doOrder_133 rfl (by decide) rfl (by omega) ?_
          have t10 := zx_ac3 hσ_78 (((18 * o) + (6 * x3_78)) + 3) (by omega)
          have t11 : σ_78 6 (((18 * o) + (6 * x3_78)) + 3) = σ 6 (((18 * o) + (6 * x3_78)) + 3) := hFσ_78 _ _ (by omega)
          have J165 : ∀ (v0_165 : Int), (0 ≤ v0_165 ∧ v0_165 ≤ 255) → V 165 [some (ZR 0), some (ZI o), some (ZI bits), some (ZI x3_78), some (ZI ((18 * o) + (6 * x3_78))), some (ZI r120), none, none, none] [ZI v0_165] 41 σ_78 := by
            intro v0_165 hv0_165
            show V 165 [some (ZR 0), some (ZI o), some (ZI bits), some (ZI x3_78), some (ZI ((18 * o) + (6 * x3_78))), some (ZI r120), none, none, none] [ZI v0_165] 41 σ_78
            refine zr_istore (pc := 165) hV [some (ZR 0), some (ZI o), some (ZI bits), some (ZI x3_78), some (ZI ((18 * o) + (6 * x3_78))), some (ZI r120), some (ZI v0_165), none, none] dX12_doOrder_165 (by decide) rfl rfl ?_
            refine zr_aload_n (pc := 167) hV dX12_doOrder_167 rfl rfl ?_
            refine zr_getR (pc := 168) hV 9 6 dX12_doOrder_168 fX12_35 rfl rfl rfl (by decide) (zx_g9 hσ_78) (by omega) ?_
            refine zr_iload (pc := 171) hV dX12_doOrder_171 rfl ?_
            refine zr_iconst (pc := 173) hV 3 dX12_doOrder_173 rfl ?_
            refine zr_iadd (pc := 174) hV dX12_doOrder_174 ?_
            refine zr_iald (pc := 175) hV dX12_doOrder_175 rfl (by decide) rfl (by omega) ?_
            have t12 := zx_ac3 hσ_78 (((18 * o) + (6 * x3_78)) + 3) (by omega)
            have t13 : σ_78 6 (((18 * o) + (6 * x3_78)) + 3) = σ 6 (((18 * o) + (6 * x3_78)) + 3) := hFσ_78 _ _ (by omega)
            refine zr_iload (pc := 176) hV dX12_doOrder_176 rfl ?_
            refine zr_iload (pc := 178) hV dX12_doOrder_178 rfl ?_
            refine zr_callSp (pc := 180) hV [ZI (σ_78 6 (((18 * o) + (6 * x3_78)) + 3)), ZI r120, ZI v0_165] (st := []) (c_X12_reckon (σ := σ_78) (σ_78 6 (((18 * o) + (6 * x3_78)) + 3)) r120 v0_165 (by omega) (by omega) (by omega)) dX12_doOrder_180 mX12_304 (by decide) (Nat.le_of_ble_eq_true rfl) (Nat.le_refl _) (fun r180 hr180 pr180 => ?_)
            refine zr_aload_n (pc := 183) hV dX12_doOrder_183 rfl rfl ?_
            refine zr_callVp (pc := 184) hV [] (st := [ZI r180]) (c_X12_mask (σ := σ_78) hσ_78 ) dX12_doOrder_184 mX12_346 rfl (by decide) (by decide) (Nat.le_of_ble_eq_true rfl) (Nat.le_refl _) (fun r184 hr184 pr184 => ?_)
            refine zr_iand (pc := 187) hV dX12_doOrder_187 ?_
            have t14 := zq_and_nnR (x := r180) (y := r184) (by omega)
            refine zr_istore (pc := 188) hV [some (ZR 0), some (ZI o), some (ZI bits), some (ZI x3_78), some (ZI ((18 * o) + (6 * x3_78))), some (ZI r120), some (ZI v0_165), some (ZI (zq_and r180 r184)), none] dX12_doOrder_188 (by decide) rfl rfl ?_
            refine zr_aload_n (pc := 190) hV dX12_doOrder_190 rfl rfl ?_
            refine zr_getR (pc := 191) hV 9 6 dX12_doOrder_191 fX12_35 rfl rfl rfl (by decide) (zx_g9 hσ_78) (by omega) ?_
            refine zr_iload (pc := 194) hV dX12_doOrder_194 rfl ?_
            refine zr_iald (pc := 196) hV dX12_doOrder_196 rfl (by decide) rfl (by omega) ?_
            have t15 := zx_ac0 hσ_78 ((18 * o) + (6 * x3_78)) (by omega)
            have t16 : σ_78 6 ((18 * o) + (6 * x3_78)) = σ 6 ((18 * o) + (6 * x3_78)) := hFσ_78 _ _ (by omega)
            refine zr_istore (pc := 197) hV [some (ZR 0), some (ZI o), some (ZI bits), some (ZI x3_78), some (ZI ((18 * o) + (6 * x3_78))), some (ZI r120), some (ZI v0_165), some (ZI (zq_and r180 r184)), some (ZI (σ_78 6 ((18 * o) + (6 * x3_78))))] dX12_doOrder_197 (by decide) rfl rfl ?_
            refine zr_iload (pc := 199) hV dX12_doOrder_199 rfl ?_
            refine zr_iconst (pc := 201) hV 3 dX12_doOrder_201 rfl ?_
            refine zr_icmp_ge (pc := 202) hV 223 dX12_doOrder_202 (by decide) (by omega) ⟨by decide, by decide⟩ (fun c17 => ?_) (fun c17 => ?_)
            · show V 223 [some (ZR 0), some (ZI o), some (ZI bits), some (ZI x3_78), some (ZI ((18 * o) + (6 * x3_78))), some (ZI r120), some (ZI v0_165), some (ZI (zq_and r180 r184)), some (ZI (σ_78 6 ((18 * o) + (6 * x3_78))))] [] 41 σ_78
              refine zr_iload (pc := 223) hV dX12_doOrder_223 rfl ?_
              refine zr_iconst (pc := 225) hV 4 dX12_doOrder_225 rfl ?_
              refine zr_icmp_ne (pc := 226) hV 250 dX12_doOrder_226 (by decide) (by omega) ⟨by decide, by decide⟩ (fun c18 => ?_) (fun c18 => ?_)
              · show V 250 [some (ZR 0), some (ZI o), some (ZI bits), some (ZI x3_78), some (ZI ((18 * o) + (6 * x3_78))), some (ZI r120), some (ZI v0_165), some (ZI (zq_and r180 r184)), some (ZI (σ_78 6 ((18 * o) + (6 * x3_78))))] [] 41 σ_78
                refine zr_iload (pc := 250) hV dX12_doOrder_250 rfl ?_
                refine zr_iconst (pc := 252) hV 5 dX12_doOrder_252 rfl ?_
                refine zr_icmp_ne (pc := 253) hV 272 dX12_doOrder_253 (by decide) (by omega) ⟨by decide, by decide⟩ (fun c19 => ?_) (fun c19 => ?_)
                · show V 272 [some (ZR 0), some (ZI o), some (ZI bits), some (ZI x3_78), some (ZI ((18 * o) + (6 * x3_78))), some (ZI r120), some (ZI v0_165), some (ZI (zq_and r180 r184)), some (ZI (σ_78 6 ((18 * o) + (6 * x3_78))))] [] 41 σ_78
                  refine zr_aload_n (pc := 272) hV dX12_doOrder_272 rfl rfl ?_
                  refine zr_getR (pc := 273) hV 24 15 dX12_doOrder_273 fX12_62 rfl rfl rfl (by decide) (zx_g24 hσ_78) (by omega) ?_
                  refine zr_bipush (pc := 276) hV 8 dX12_doOrder_276 (by decide) ?_
                  refine zr_aload_n (pc := 278) hV dX12_doOrder_278 rfl rfl ?_
                  refine zr_iload_n (pc := 279) hV dX12_doOrder_279 rfl rfl ?_
                  refine zr_iload_n (pc := 280) hV dX12_doOrder_280 rfl rfl ?_
                  refine zr_iload (pc := 281) hV dX12_doOrder_281 rfl ?_
                  refine zr_callVp (pc := 283) hV [ZI o, ZI bits, ZI (σ_78 6 ((18 * o) + (6 * x3_78)))] (st := [ZI 8, ZR 15]) (c_X12_addressOf (σ := σ_78) hσ_78 o bits (σ_78 6 ((18 * o) + (6 * x3_78))) (by omega) (by omega) (by omega) (zx_B_fr (fun i => hFσ_78 2 i (by omega)) (hFσ_78 0 2 (by omega)) q3)) dX12_doOrder_283 mX12_352 rfl (by decide) (by decide) (Nat.le_of_ble_eq_true rfl) (Nat.le_refl _) (fun r283 hr283 pr283 => ?_)
                  refine zr_iadd (pc := 286) hV dX12_doOrder_286 ?_
                  refine zr_iload (pc := 287) hV dX12_doOrder_287 rfl ?_
                  refine zr_iast (pc := 289) hV dX12_doOrder_289 rfl (by decide) rfl (by omega) (fun σ289 eσ289 => ?_)
                  have hσ289 : zx_T σ289 := zx_ua15 eσ289 hσ_78 (by omega)
                  have hFσ289 : ∀ a i : Int, (a ≠ 15) → σ289 a i = σ a i := fun a i h => by rw [eσ289, zq_up_ne (fun q => h q.1)]; exact hFσ_78 a i h
                  show V 290 [some (ZR 0), some (ZI o), some (ZI bits), some (ZI x3_78), some (ZI ((18 * o) + (6 * x3_78))), some (ZI r120), some (ZI v0_165), some (ZI (zq_and r180 r184)), some (ZI (σ_78 6 ((18 * o) + (6 * x3_78))))] [] 41 σ289
                  refine zr_iinc (pc := 290) hV [some (ZR 0), some (ZI o), some (ZI bits), some (ZI (x3_78 + 1)), some (ZI ((18 * o) + (6 * x3_78))), some (ZI r120), some (ZI v0_165), some (ZI (zq_and r180 r184)), some (ZI (σ_78 6 ((18 * o) + (6 * x3_78))))] (x3_78 + 1) dX12_doOrder_290 rfl rfl (by decide) rfl rfl ?_
                  refine zr_goto (pc := 293) hV 78 dX12_doOrder_293 (by decide) ?_
                  refine zr_sub (pc := 78) hV [some (ZR 0), some (ZI o), some (ZI bits), some (ZI (x3_78 + 1)), none, none, none, none, none] (⟨rfl, rfl, rfl, rfl, trivial⟩) ?_
                  exact ih78 (x3_78 + 1) σ289 (by omega) hσ289 hFσ289 (by omega)
                · show V 256 [some (ZR 0), some (ZI o), some (ZI bits), some (ZI x3_78), some (ZI ((18 * o) + (6 * x3_78))), some (ZI r120), some (ZI v0_165), some (ZI (zq_and r180 r184)), some (ZI (σ_78 6 ((18 * o) + (6 * x3_78))))] [] 41 σ_78
                  refine zr_aload_n (pc := 256) hV dX12_doOrder_256 rfl rfl ?_
                  refine zr_getR (pc := 257) hV 24 15 dX12_doOrder_257 fX12_62 rfl rfl rfl (by decide) (zx_g24 hσ_78) (by omega) ?_
                  refine zr_sipush (pc := 260) hV 265 dX12_doOrder_260 (by decide) ?_
                  refine zr_iload (pc := 263) hV dX12_doOrder_263 rfl ?_
                  refine zr_bipush (pc := 265) hV 64 dX12_doOrder_265 (by decide) ?_
                  refine zr_irem (pc := 267) hV dX12_doOrder_267 ⟨by decide, by decide⟩ (by omega) ?_
                  have t20 := zq_rem_c (x := zq_and r180 r184) 64 (by decide) (by omega)
                  refine zr_iast (pc := 268) hV dX12_doOrder_268 rfl (by decide) rfl (by omega) (fun σ268 eσ268 => ?_)
                  have hσ268 : zx_T σ268 := zx_ua15 eσ268 hσ_78 (by omega)
                  have hFσ268 : ∀ a i : Int, (a ≠ 15) → σ268 a i = σ a i := fun a i h => by rw [eσ268, zq_up_ne (fun q => h q.1)]; exact hFσ_78 a i h
                  refine zr_goto (pc := 269) hV 290 dX12_doOrder_269 (by decide) ?_
                  show V 290 [some (ZR 0), some (ZI o), some (ZI bits), some (ZI x3_78), some (ZI ((18 * o) + (6 * x3_78))), some (ZI r120), some (ZI v0_165), some (ZI (zq_and r180 r184)), some (ZI (σ_78 6 ((18 * o) + (6 * x3_78))))] [] 41 σ268
                  refine zr_iinc (pc := 290) hV [some (ZR 0), some (ZI o), some (ZI bits), some (ZI (x3_78 + 1)), some (ZI ((18 * o) + (6 * x3_78))), some (ZI r120), some (ZI v0_165), some (ZI (zq_and r180 r184)), some (ZI (σ_78 6 ((18 * o) + (6 * x3_78))))] (x3_78 + 1) dX12_doOrder_290 rfl rfl (by decide) rfl rfl ?_
                  refine zr_goto (pc := 293) hV 78 dX12_doOrder_293 (by decide) ?_
                  refine zr_sub (pc := 78) hV [some (ZR 0), some (ZI o), some (ZI bits), some (ZI (x3_78 + 1)), none, none, none, none, none] (⟨rfl, rfl, rfl, rfl, trivial⟩) ?_
                  exact ih78 (x3_78 + 1) σ268 (by omega) hσ268 hFσ268 (by omega)
              · show V 229 [some (ZR 0), some (ZI o), some (ZI bits), some (ZI x3_78), some (ZI ((18 * o) + (6 * x3_78))), some (ZI r120), some (ZI v0_165), some (ZI (zq_and r180 r184)), some (ZI (σ_78 6 ((18 * o) + (6 * x3_78))))] [] 41 σ_78
                refine zr_aload_n (pc := 229) hV dX12_doOrder_229 rfl rfl ?_
                refine zr_getR (pc := 230) hV 24 15 dX12_doOrder_230 fX12_62 rfl rfl rfl (by decide) (zx_g24 hσ_78) (by omega) ?_
                refine zr_sipush (pc := 233) hV 264 dX12_doOrder_233 (by decide) ?_
                refine zr_iload (pc := 236) hV dX12_doOrder_236 rfl ?_
                refine zr_if_eq (pc := 238) hV 245 dX12_doOrder_238 (by decide) (by omega) (fun c21 => ?_) (fun c21 => ?_)
                · show V 245 [some (ZR 0), some (ZI o), some (ZI bits), some (ZI x3_78), some (ZI ((18 * o) + (6 * x3_78))), some (ZI r120), some (ZI v0_165), some (ZI (zq_and r180 r184)), some (ZI (σ_78 6 ((18 * o) + (6 * x3_78))))] [ZI 264, ZR 15] 41 σ_78
                  refine zr_iconst (pc := 245) hV 0 dX12_doOrder_245 rfl ?_
                  show V 246 [some (ZR 0), some (ZI o), some (ZI bits), some (ZI x3_78), some (ZI ((18 * o) + (6 * x3_78))), some (ZI r120), some (ZI v0_165), some (ZI (zq_and r180 r184)), some (ZI (σ_78 6 ((18 * o) + (6 * x3_78))))] [ZI 0, ZI 264, ZR 15] 41 σ_78
                  refine zr_iast (pc := 246) hV dX12_doOrder_246 rfl (by decide) rfl (by omega) (fun σ246 eσ246 => ?_)
                  have hσ246 : zx_T σ246 := zx_ua15 eσ246 hσ_78 (by omega)
                  have hFσ246 : ∀ a i : Int, (a ≠ 15) → σ246 a i = σ a i := fun a i h => by rw [eσ246, zq_up_ne (fun q => h q.1)]; exact hFσ_78 a i h
                  refine zr_goto (pc := 247) hV 290 dX12_doOrder_247 (by decide) ?_
                  show V 290 [some (ZR 0), some (ZI o), some (ZI bits), some (ZI x3_78), some (ZI ((18 * o) + (6 * x3_78))), some (ZI r120), some (ZI v0_165), some (ZI (zq_and r180 r184)), some (ZI (σ_78 6 ((18 * o) + (6 * x3_78))))] [] 41 σ246
                  refine zr_iinc (pc := 290) hV [some (ZR 0), some (ZI o), some (ZI bits), some (ZI (x3_78 + 1)), some (ZI ((18 * o) + (6 * x3_78))), some (ZI r120), some (ZI v0_165), some (ZI (zq_and r180 r184)), some (ZI (σ_78 6 ((18 * o) + (6 * x3_78))))] (x3_78 + 1) dX12_doOrder_290 rfl rfl (by decide) rfl rfl ?_
                  refine zr_goto (pc := 293) hV 78 dX12_doOrder_293 (by decide) ?_
                  refine zr_sub (pc := 78) hV [some (ZR 0), some (ZI o), some (ZI bits), some (ZI (x3_78 + 1)), none, none, none, none, none] (⟨rfl, rfl, rfl, rfl, trivial⟩) ?_
                  exact ih78 (x3_78 + 1) σ246 (by omega) hσ246 hFσ246 (by omega)
                · show V 241 [some (ZR 0), some (ZI o), some (ZI bits), some (ZI x3_78), some (ZI ((18 * o) + (6 * x3_78))), some (ZI r120), some (ZI v0_165), some (ZI (zq_and r180 r184)), some (ZI (σ_78 6 ((18 * o) + (6 * x3_78))))] [ZI 264, ZR 15] 41 σ_78
                  refine zr_iconst (pc := 241) hV 1 dX12_doOrder_241 rfl ?_
                  refine zr_goto (pc := 242) hV 246 dX12_doOrder_242 (by decide) ?_
                  show V 246 [some (ZR 0), some (ZI o), some (ZI bits), some (ZI x3_78), some (ZI ((18 * o) + (6 * x3_78))), some (ZI r120), some (ZI v0_165), some (ZI (zq_and r180 r184)), some (ZI (σ_78 6 ((18 * o) + (6 * x3_78))))] [ZI 1, ZI 264, ZR 15] 41 σ_78
                  refine zr_iast (pc := 246) hV dX12_doOrder_246 rfl (by decide) rfl (by omega) (fun σ246 eσ246 => ?_)
                  have hσ246 : zx_T σ246 := zx_ua15 eσ246 hσ_78 (by omega)
                  have hFσ246 : ∀ a i : Int, (a ≠ 15) → σ246 a i = σ a i := fun a i h => by rw [eσ246, zq_up_ne (fun q => h q.1)]; exact hFσ_78 a i h
                  refine zr_goto (pc := 247) hV 290 dX12_doOrder_247 (by decide) ?_
                  show V 290 [some (ZR 0), some (ZI o), some (ZI bits), some (ZI x3_78), some (ZI ((18 * o) + (6 * x3_78))), some (ZI r120), some (ZI v0_165), some (ZI (zq_and r180 r184)), some (ZI (σ_78 6 ((18 * o) + (6 * x3_78))))] [] 41 σ246
                  refine zr_iinc (pc := 290) hV [some (ZR 0), some (ZI o), some (ZI bits), some (ZI (x3_78 + 1)), some (ZI ((18 * o) + (6 * x3_78))), some (ZI r120), some (ZI v0_165), some (ZI (zq_and r180 r184)), some (ZI (σ_78 6 ((18 * o) + (6 * x3_78))))] (x3_78 + 1) dX12_doOrder_290 rfl rfl (by decide) rfl rfl ?_
                  refine zr_goto (pc := 293) hV 78 dX12_doOrder_293 (by decide) ?_
                  refine zr_sub (pc := 78) hV [some (ZR 0), some (ZI o), some (ZI bits), some (ZI (x3_78 + 1)), none, none, none, none, none] (⟨rfl, rfl, rfl, rfl, trivial⟩) ?_
                  exact ih78 (x3_78 + 1) σ246 (by omega) hσ246 hFσ246 (by omega)
            · show V 205 [some (ZR 0), some (ZI o), some (ZI bits), some (ZI x3_78), some (ZI ((18 * o) + (6 * x3_78))), some (ZI r120), some (ZI v0_165), some (ZI (zq_and r180 r184)), some (ZI (σ_78 6 ((18 * o) + (6 * x3_78))))] [] 41 σ_78
              refine zr_aload_n (pc := 205) hV dX12_doOrder_205 rfl rfl ?_
              refine zr_getR (pc := 206) hV 24 15 dX12_doOrder_206 fX12_62 rfl rfl rfl (by decide) (zx_g24 hσ_78) (by omega) ?_
              refine zr_aload_n (pc := 209) hV dX12_doOrder_209 rfl rfl ?_
              refine zr_iload_n (pc := 210) hV dX12_doOrder_210 rfl rfl ?_
              refine zr_iload_n (pc := 211) hV dX12_doOrder_211 rfl rfl ?_
              refine zr_iload (pc := 212) hV dX12_doOrder_212 rfl ?_
              refine zr_callVp (pc := 214) hV [ZI o, ZI bits, ZI (σ_78 6 ((18 * o) + (6 * x3_78)))] (st := [ZR 15]) (c_X12_fieldOf (σ := σ_78) hσ_78 o bits (σ_78 6 ((18 * o) + (6 * x3_78))) (by omega) (by omega) (by omega) (zx_B_fr (fun i => hFσ_78 2 i (by omega)) (hFσ_78 0 2 (by omega)) q3)) dX12_doOrder_214 mX12_289 rfl (by decide) (by decide) (Nat.le_of_ble_eq_true rfl) (Nat.le_refl _) (fun r214 hr214 pr214 => ?_)
              refine zr_iload (pc := 217) hV dX12_doOrder_217 rfl ?_
              refine zr_iast (pc := 219) hV dX12_doOrder_219 rfl (by decide) rfl (by omega) (fun σ219 eσ219 => ?_)
              have hσ219 : zx_T σ219 := zx_ua15 eσ219 hσ_78 (by omega)
              have hFσ219 : ∀ a i : Int, (a ≠ 15) → σ219 a i = σ a i := fun a i h => by rw [eσ219, zq_up_ne (fun q => h q.1)]; exact hFσ_78 a i h
              refine zr_goto (pc := 220) hV 290 dX12_doOrder_220 (by decide) ?_
              show V 290 [some (ZR 0), some (ZI o), some (ZI bits), some (ZI x3_78), some (ZI ((18 * o) + (6 * x3_78))), some (ZI r120), some (ZI v0_165), some (ZI (zq_and r180 r184)), some (ZI (σ_78 6 ((18 * o) + (6 * x3_78))))] [] 41 σ219
              refine zr_iinc (pc := 290) hV [some (ZR 0), some (ZI o), some (ZI bits), some (ZI (x3_78 + 1)), some (ZI ((18 * o) + (6 * x3_78))), some (ZI r120), some (ZI v0_165), some (ZI (zq_and r180 r184)), some (ZI (σ_78 6 ((18 * o) + (6 * x3_78))))] (x3_78 + 1) dX12_doOrder_290 rfl rfl (by decide) rfl rfl ?_
              refine zr_goto (pc := 293) hV 78 dX12_doOrder_293 (by decide) ?_
              refine zr_sub (pc := 78) hV [some (ZR 0), some (ZI o), some (ZI bits), some (ZI (x3_78 + 1)), none, none, none, none, none] (⟨rfl, rfl, rfl, rfl, trivial⟩) ?_
              exact ih78 (x3_78 + 1) σ219 (by omega) hσ219 hFσ219 (by omega)
          refine zr_if_le (pc := 134) hV 164 dX12_doOrder_134 (by decide) (by omega) (fun c22 => ?_) (fun c22 => ?_)
          · show V 164 [some (ZR 0), some (ZI o), some (ZI bits), some (ZI x3_78), some (ZI ((18 * o) + (6 * x3_78))), some (ZI r120), none, none, none] [] 41 σ_78
            refine zr_iconst (pc := 164) hV 0 dX12_doOrder_164 rfl ?_
            exact J165 0 (by omega)
          · show V 137 [some (ZR 0), some (ZI o), some (ZI bits), some (ZI x3_78), some (ZI ((18 * o) + (6 * x3_78))), some (ZI r120), none, none, none] [] 41 σ_78
            refine zr_aload_n (pc := 137) hV dX12_doOrder_137 rfl rfl ?_
            refine zr_iload_n (pc := 138) hV dX12_doOrder_138 rfl rfl ?_
            refine zr_iload_n (pc := 139) hV dX12_doOrder_139 rfl rfl ?_
            refine zr_aload_n (pc := 140) hV dX12_doOrder_140 rfl rfl ?_
            refine zr_getR (pc := 141) hV 9 6 dX12_doOrder_141 fX12_35 rfl rfl rfl (by decide) (zx_g9 hσ_78) (by omega) ?_
            refine zr_iload (pc := 144) hV dX12_doOrder_144 rfl ?_
            refine zr_iconst (pc := 146) hV 4 dX12_doOrder_146 rfl ?_
            refine zr_iadd (pc := 147) hV dX12_doOrder_147 ?_
            refine zr_iald (pc := 148) hV dX12_doOrder_148 rfl (by decide) rfl (by omega) ?_
            have t23 := zx_ac4 hσ_78 (((18 * o) + (6 * x3_78)) + 4) (by omega)
            have t24 : σ_78 6 (((18 * o) + (6 * x3_78)) + 4) = σ 6 (((18 * o) + (6 * x3_78)) + 4) := hFσ_78 _ _ (by omega)
            have za := q2 x3_78 (by omega) (by omega)
            refine zr_aload_n (pc := 149) hV dX12_doOrder_149 rfl rfl ?_
            refine zr_getR (pc := 150) hV 9 6 dX12_doOrder_150 fX12_35 rfl rfl rfl (by decide) (zx_g9 hσ_78) (by omega) ?_
            refine zr_iload (pc := 153) hV dX12_doOrder_153 rfl ?_
            refine zr_iconst (pc := 155) hV 5 dX12_doOrder_155 rfl ?_
            refine zr_iadd (pc := 156) hV dX12_doOrder_156 ?_
            refine zr_iald (pc := 157) hV dX12_doOrder_157 rfl (by decide) rfl (by omega) ?_
            have t25 := zx_ac hσ_78 (((18 * o) + (6 * x3_78)) + 5)
            have t26 : σ_78 6 (((18 * o) + (6 * x3_78)) + 5) = σ 6 (((18 * o) + (6 * x3_78)) + 5) := hFσ_78 _ _ (by omega)
            refine zr_callVp (pc := 158) hV [ZI o, ZI bits, ZI (σ_78 6 (((18 * o) + (6 * x3_78)) + 4)), ZI (σ_78 6 (((18 * o) + (6 * x3_78)) + 5))] (st := []) (c_X12_valueOf (σ := σ_78) hσ_78 o bits (σ_78 6 (((18 * o) + (6 * x3_78)) + 4)) (σ_78 6 (((18 * o) + (6 * x3_78)) + 5)) (by omega) (by omega) (by omega) (by omega) (zx_B_fr (fun i => hFσ_78 2 i (by omega)) (hFσ_78 0 2 (by omega)) q3)) dX12_doOrder_158 mX12_355 rfl (by decide) (by decide) (Nat.le_of_ble_eq_true rfl) (Nat.le_refl _) (fun r158 hr158 pr158 => ?_)
            refine zr_goto (pc := 161) hV 165 dX12_doOrder_161 (by decide) ?_
            exact J165 r158 (by omega)
    exact L78 (3 - (0 : Int) + 1 : Int).toNat 0 σ (by omega) hσ (fun a i _ => rfl) (by omega)
  · show V 9 [some (ZR 0), some (ZI o), some (ZI bits), none, none, none, none, none, none] [] 41 σ
    refine zr_aload_n (pc := 9) hV dX12_doOrder_9 rfl rfl ?_
    refine zr_getR (pc := 10) hV 7 4 dX12_doOrder_10 fX12_29 rfl rfl rfl (by decide) (zx_g7 hσ) (by omega) ?_
    refine zr_iload_n (pc := 13) hV dX12_doOrder_13 rfl rfl ?_
    refine zr_iald (pc := 14) hV dX12_doOrder_14 rfl (by decide) rfl (by omega) ?_
    have t27 := zx_ga4 hσ o
    refine zr_iconst (pc := 15) hV 4 dX12_doOrder_15 rfl ?_
    have J47 : ∀ (v0_47 : Int), (0 ≤ v0_47 ∧ v0_47 ≤ 255) → V 47 [some (ZR 0), some (ZI o), some (ZI bits), none, none, none, none, none, none] [ZI v0_47] 41 σ := by
      intro v0_47 hv0_47
      show V 47 [some (ZR 0), some (ZI o), some (ZI bits), none, none, none, none, none, none] [ZI v0_47] 41 σ
      refine zr_istore_n (pc := 47) hV [some (ZR 0), some (ZI o), some (ZI bits), some (ZI v0_47), none, none, none, none, none] dX12_doOrder_47 rfl (by decide) rfl rfl ?_
      refine zr_iload_n (pc := 48) hV dX12_doOrder_48 rfl rfl ?_
      refine zr_if_eq (pc := 49) hV 56 dX12_doOrder_49 (by decide) (by omega) (fun c28 => ?_) (fun c28 => ?_)
      · show V 56 [some (ZR 0), some (ZI o), some (ZI bits), some (ZI v0_47), none, none, none, none, none] [] 41 σ
        refine zr_iconst (pc := 56) hV 0 dX12_doOrder_56 rfl ?_
        show V 57 [some (ZR 0), some (ZI o), some (ZI bits), some (ZI v0_47), none, none, none, none, none] [ZI 0] 41 σ
        refine zr_aload_n (pc := 57) hV dX12_doOrder_57 rfl rfl ?_
        refine zr_getR (pc := 58) hV 6 3 dX12_doOrder_58 fX12_26 rfl rfl rfl (by decide) (zx_g6 hσ) (by omega) ?_
        refine zr_iload_n (pc := 61) hV dX12_doOrder_61 rfl rfl ?_
        refine zr_iald (pc := 62) hV dX12_doOrder_62 rfl (by decide) rfl (by omega) ?_
        have t29 := zx_ga3 hσ o
        refine zr_iconst (pc := 63) hV 1 dX12_doOrder_63 rfl ?_
        refine zr_icmp_ne (pc := 64) hV 71 dX12_doOrder_64 (by decide) (by omega) ⟨by decide, by decide⟩ (fun c30 => ?_) (fun c30 => ?_)
        · show V 71 [some (ZR 0), some (ZI o), some (ZI bits), some (ZI v0_47), none, none, none, none, none] [ZI 0] 41 σ
          refine zr_iconst (pc := 71) hV 0 dX12_doOrder_71 rfl ?_
          show V 72 [some (ZR 0), some (ZI o), some (ZI bits), some (ZI v0_47), none, none, none, none, none] [ZI 0, ZI 0] 41 σ
          refine zr_icmp_eq (pc := 72) hV 76 dX12_doOrder_72 (by decide) ⟨by decide, by decide⟩ ⟨by decide, by decide⟩ (fun c31 => ?_) (fun c31 => ?_)
          · show V 76 [some (ZR 0), some (ZI o), some (ZI bits), some (ZI v0_47), none, none, none, none, none] [] 41 σ
            refine zr_iconst (pc := 76) hV 0 dX12_doOrder_76 rfl ?_
            refine zr_istore_n (pc := 77) hV [some (ZR 0), some (ZI o), some (ZI bits), some (ZI 0), none, none, none, none, none] dX12_doOrder_77 rfl (by decide) rfl rfl ?_
            have L78 : ∀ (fuel : Nat) (x3_78 : Int) (σ_78 : zq_S), (0 ≤ x3_78 ∧ x3_78 ≤ 3) → (zx_T σ_78) → (∀ a i : Int, (a ≠ 15) → σ_78 a i = σ a i) → 3 - x3_78 < (fuel : Int) → V 78 [some (ZR 0), some (ZI o), some (ZI bits), some (ZI x3_78), none, none, none, none, none] [] 41 σ_78 := by
              intro fuel
              induction fuel with
              | zero =>
                intro x3_78 σ_78 hx3_78 hσ_78 hFσ_78 hm78
                exfalso; omega
              | succ fuel ih =>
                intro x3_78 σ_78 hx3_78 hσ_78 hFσ_78 hm78
                have ih78 := ih
                show V 78 [some (ZR 0), some (ZI o), some (ZI bits), some (ZI x3_78), none, none, none, none, none] [] 41 σ_78
                refine zr_iload_n (pc := 78) hV dX12_doOrder_78 rfl rfl ?_
                refine zr_aload_n (pc := 79) hV dX12_doOrder_79 rfl rfl ?_
                refine zr_getR (pc := 80) hV 8 5 dX12_doOrder_80 fX12_32 rfl rfl rfl (by decide) (zx_g8 hσ_78) (by omega) ?_
                refine zr_iload_n (pc := 83) hV dX12_doOrder_83 rfl rfl ?_
                refine zr_iald (pc := 84) hV dX12_doOrder_84 rfl (by decide) rfl (by omega) ?_
                have t32 := zx_ga5 hσ_78 o
                have t33 : σ_78 5 o = σ 5 o := hFσ_78 _ _ (by omega)
                refine zr_icmp_ge (pc := 85) hV 296 dX12_doOrder_85 (by decide) (by omega) (by omega) (fun c34 => ?_) (fun c34 => ?_)
                · show V 296 [some (ZR 0), some (ZI o), some (ZI bits), some (ZI x3_78), none, none, none, none, none] [] 41 σ_78
                  exact zr_vret (pc := 296) hV dX12_doOrder_296 rfl rfl ⟨rfl, hσ_78, hFσ_78, trivial⟩
                · show V 88 [some (ZR 0), some (ZI o), some (ZI bits), some (ZI x3_78), none, none, none, none, none] [] 41 σ_78
                  refine zr_bipush (pc := 88) hV 18 dX12_doOrder_88 (by decide) ?_
                  refine zr_iload_n (pc := 90) hV dX12_doOrder_90 rfl rfl ?_
                  refine zr_imul (pc := 91) hV dX12_doOrder_91 ?_
                  refine zr_bipush (pc := 92) hV 6 dX12_doOrder_92 (by decide) ?_
                  refine zr_iload_n (pc := 94) hV dX12_doOrder_94 rfl rfl ?_
                  refine zr_imul (pc := 95) hV dX12_doOrder_95 ?_
                  refine zr_iadd (pc := 96) hV dX12_doOrder_96 ?_
                  refine zr_istore (pc := 97) hV [some (ZR 0), some (ZI o), some (ZI bits), some (ZI x3_78), some (ZI ((18 * o) + (6 * x3_78))), none, none, none, none] dX12_doOrder_97 (by decide) rfl rfl ?_
                  refine zr_aload_n (pc := 99) hV dX12_doOrder_99 rfl rfl ?_
                  refine zr_iload_n (pc := 100) hV dX12_doOrder_100 rfl rfl ?_
                  refine zr_iload_n (pc := 101) hV dX12_doOrder_101 rfl rfl ?_
                  refine zr_aload_n (pc := 102) hV dX12_doOrder_102 rfl rfl ?_
                  refine zr_getR (pc := 103) hV 9 6 dX12_doOrder_103 fX12_35 rfl rfl rfl (by decide) (zx_g9 hσ_78) (by omega) ?_
                  refine zr_iload (pc := 106) hV dX12_doOrder_106 rfl ?_
                  refine zr_iconst (pc := 108) hV 1 dX12_doOrder_108 rfl ?_
                  refine zr_iadd (pc := 109) hV dX12_doOrder_109 ?_
                  refine zr_iald (pc := 110) hV dX12_doOrder_110 rfl (by decide) rfl (by omega) ?_
                  have t35 := zx_ac1 hσ_78 (((18 * o) + (6 * x3_78)) + 1) (by omega)
                  have t36 : σ_78 6 (((18 * o) + (6 * x3_78)) + 1) = σ 6 (((18 * o) + (6 * x3_78)) + 1) := hFσ_78 _ _ (by omega)
                  refine zr_aload_n (pc := 111) hV dX12_doOrder_111 rfl rfl ?_
                  refine zr_getR (pc := 112) hV 9 6 dX12_doOrder_112 fX12_35 rfl rfl rfl (by decide) (zx_g9 hσ_78) (by omega) ?_
                  refine zr_iload (pc := 115) hV dX12_doOrder_115 rfl ?_
                  refine zr_iconst (pc := 117) hV 2 dX12_doOrder_117 rfl ?_
                  refine zr_iadd (pc := 118) hV dX12_doOrder_118 ?_
                  refine zr_iald (pc := 119) hV dX12_doOrder_119 rfl (by decide) rfl (by omega) ?_
                  have t37 := zx_ac hσ_78 (((18 * o) + (6 * x3_78)) + 2)
                  have t38 : σ_78 6 (((18 * o) + (6 * x3_78)) + 2) = σ 6 (((18 * o) + (6 * x3_78)) + 2) := hFσ_78 _ _ (by omega)
                  refine zr_callVp (pc := 120) hV [ZI o, ZI bits, ZI (σ_78 6 (((18 * o) + (6 * x3_78)) + 1)), ZI (σ_78 6 (((18 * o) + (6 * x3_78)) + 2))] (st := []) (c_X12_valueOf (σ := σ_78) hσ_78 o bits (σ_78 6 (((18 * o) + (6 * x3_78)) + 1)) (σ_78 6 (((18 * o) + (6 * x3_78)) + 2)) (by omega) (by omega) (by omega) (by omega) (zx_B_fr (fun i => hFσ_78 2 i (by omega)) (hFσ_78 0 2 (by omega)) q3)) dX12_doOrder_120 mX12_355 rfl (by decide) (by decide) (Nat.le_of_ble_eq_true rfl) (Nat.le_refl _) (fun r120 hr120 pr120 => ?_)
                  refine zr_istore (pc := 123) hV [some (ZR 0), some (ZI o), some (ZI bits), some (ZI x3_78), some (ZI ((18 * o) + (6 * x3_78))), some (ZI r120), none, none, none] dX12_doOrder_123 (by decide) rfl rfl ?_
                  refine zr_aload_n (pc := 125) hV dX12_doOrder_125 rfl rfl ?_
                  refine zr_getR (pc := 126) hV 9 6 dX12_doOrder_126 fX12_35 rfl rfl rfl (by decide) (zx_g9 hσ_78) (by omega) ?_
                  refine zr_iload (pc := 129) hV dX12_doOrder_129 rfl ?_
                  refine zr_iconst (pc := 131) hV 3 dX12_doOrder_131 rfl ?_
                  refine zr_iadd (pc := 132) hV dX12_doOrder_132 ?_
                  refine zr_iald (pc := 133) hV dX12_doOrder_133 rfl (by decide) rfl (by omega) ?_
                  have t39 := zx_ac3 hσ_78 (((18 * o) + (6 * x3_78)) + 3) (by omega)
                  have t40 : σ_78 6 (((18 * o) + (6 * x3_78)) + 3) = σ 6 (((18 * o) + (6 * x3_78)) + 3) := hFσ_78 _ _ (by omega)
                  have J165 : ∀ (v0_165 : Int), (0 ≤ v0_165 ∧ v0_165 ≤ 255) → V 165 [some (ZR 0), some (ZI o), some (ZI bits), some (ZI x3_78), some (ZI ((18 * o) + (6 * x3_78))), some (ZI r120), none, none, none] [ZI v0_165] 41 σ_78 := by
                    intro v0_165 hv0_165
                    show V 165 [some (ZR 0), some (ZI o), some (ZI bits), some (ZI x3_78), some (ZI ((18 * o) + (6 * x3_78))), some (ZI r120), none, none, none] [ZI v0_165] 41 σ_78
                    refine zr_istore (pc := 165) hV [some (ZR 0), some (ZI o), some (ZI bits), some (ZI x3_78), some (ZI ((18 * o) + (6 * x3_78))), some (ZI r120), some (ZI v0_165), none, none] dX12_doOrder_165 (by decide) rfl rfl ?_
                    refine zr_aload_n (pc := 167) hV dX12_doOrder_167 rfl rfl ?_
                    refine zr_getR (pc := 168) hV 9 6 dX12_doOrder_168 fX12_35 rfl rfl rfl (by decide) (zx_g9 hσ_78) (by omega) ?_
                    refine zr_iload (pc := 171) hV dX12_doOrder_171 rfl ?_
                    refine zr_iconst (pc := 173) hV 3 dX12_doOrder_173 rfl ?_
                    refine zr_iadd (pc := 174) hV dX12_doOrder_174 ?_
                    refine zr_iald (pc := 175) hV dX12_doOrder_175 rfl (by decide) rfl (by omega) ?_
                    have t41 := zx_ac3 hσ_78 (((18 * o) + (6 * x3_78)) + 3) (by omega)
                    have t42 : σ_78 6 (((18 * o) + (6 * x3_78)) + 3) = σ 6 (((18 * o) + (6 * x3_78)) + 3) := hFσ_78 _ _ (by omega)
                    refine zr_iload (pc := 176) hV dX12_doOrder_176 rfl ?_
                    refine zr_iload (pc := 178) hV dX12_doOrder_178 rfl ?_
                    refine zr_callSp (pc := 180) hV [ZI (σ_78 6 (((18 * o) + (6 * x3_78)) + 3)), ZI r120, ZI v0_165] (st := []) (c_X12_reckon (σ := σ_78) (σ_78 6 (((18 * o) + (6 * x3_78)) + 3)) r120 v0_165 (by omega) (by omega) (by omega)) dX12_doOrder_180 mX12_304 (by decide) (Nat.le_of_ble_eq_true rfl) (Nat.le_refl _) (fun r180 hr180 pr180 => ?_)
                    refine zr_aload_n (pc := 183) hV dX12_doOrder_183 rfl rfl ?_
                    refine zr_callVp (pc := 184) hV [] (st := [ZI r180]) (c_X12_mask (σ := σ_78) hσ_78 ) dX12_doOrder_184 mX12_346 rfl (by decide) (by decide) (Nat.le_of_ble_eq_true rfl) (Nat.le_refl _) (fun r184 hr184 pr184 => ?_)
                    refine zr_iand (pc := 187) hV dX12_doOrder_187 ?_
                    have t43 := zq_and_nnR (x := r180) (y := r184) (by omega)
                    refine zr_istore (pc := 188) hV [some (ZR 0), some (ZI o), some (ZI bits), some (ZI x3_78), some (ZI ((18 * o) + (6 * x3_78))), some (ZI r120), some (ZI v0_165), some (ZI (zq_and r180 r184)), none] dX12_doOrder_188 (by decide) rfl rfl ?_
                    refine zr_aload_n (pc := 190) hV dX12_doOrder_190 rfl rfl ?_
                    refine zr_getR (pc := 191) hV 9 6 dX12_doOrder_191 fX12_35 rfl rfl rfl (by decide) (zx_g9 hσ_78) (by omega) ?_
                    refine zr_iload (pc := 194) hV dX12_doOrder_194 rfl ?_
                    refine zr_iald (pc := 196) hV dX12_doOrder_196 rfl (by decide) rfl (by omega) ?_
                    have t44 := zx_ac0 hσ_78 ((18 * o) + (6 * x3_78)) (by omega)
                    have t45 : σ_78 6 ((18 * o) + (6 * x3_78)) = σ 6 ((18 * o) + (6 * x3_78)) := hFσ_78 _ _ (by omega)
                    refine zr_istore (pc := 197) hV [some (ZR 0), some (ZI o), some (ZI bits), some (ZI x3_78), some (ZI ((18 * o) + (6 * x3_78))), some (ZI r120), some (ZI v0_165), some (ZI (zq_and r180 r184)), some (ZI (σ_78 6 ((18 * o) + (6 * x3_78))))] dX12_doOrder_197 (by decide) rfl rfl ?_
                    refine zr_iload (pc := 199) hV dX12_doOrder_199 rfl ?_
                    refine zr_iconst (pc := 201) hV 3 dX12_doOrder_201 rfl ?_
                    refine zr_icmp_ge (pc := 202) hV 223 dX12_doOrder_202 (by decide) (by omega) ⟨by decide, by decide⟩ (fun c46 => ?_) (fun c46 => ?_)
                    · show V 223 [some (ZR 0), some (ZI o), some (ZI bits), some (ZI x3_78), some (ZI ((18 * o) + (6 * x3_78))), some (ZI r120), some (ZI v0_165), some (ZI (zq_and r180 r184)), some (ZI (σ_78 6 ((18 * o) + (6 * x3_78))))] [] 41 σ_78
                      refine zr_iload (pc := 223) hV dX12_doOrder_223 rfl ?_
                      refine zr_iconst (pc := 225) hV 4 dX12_doOrder_225 rfl ?_
                      refine zr_icmp_ne (pc := 226) hV 250 dX12_doOrder_226 (by decide) (by omega) ⟨by decide, by decide⟩ (fun c47 => ?_) (fun c47 => ?_)
                      · show V 250 [some (ZR 0), some (ZI o), some (ZI bits), some (ZI x3_78), some (ZI ((18 * o) + (6 * x3_78))), some (ZI r120), some (ZI v0_165), some (ZI (zq_and r180 r184)), some (ZI (σ_78 6 ((18 * o) + (6 * x3_78))))] [] 41 σ_78
                        refine zr_iload (pc := 250) hV dX12_doOrder_250 rfl ?_
                        refine zr_iconst (pc := 252) hV 5 dX12_doOrder_252 rfl ?_
                        refine zr_icmp_ne (pc := 253) hV 272 dX12_doOrder_253 (by decide) (by omega) ⟨by decide, by decide⟩ (fun c48 => ?_) (fun c48 => ?_)
                        · show V 272 [some (ZR 0), some (ZI o), some (ZI bits), some (ZI x3_78), some (ZI ((18 * o) + (6 * x3_78))), some (ZI r120), some (ZI v0_165), some (ZI (zq_and r180 r184)), some (ZI (σ_78 6 ((18 * o) + (6 * x3_78))))] [] 41 σ_78
                          refine zr_aload_n (pc := 272) hV dX12_doOrder_272 rfl rfl ?_
                          refine zr_getR (pc := 273) hV 24 15 dX12_doOrder_273 fX12_62 rfl rfl rfl (by decide) (zx_g24 hσ_78) (by omega) ?_
                          refine zr_bipush (pc := 276) hV 8 dX12_doOrder_276 (by decide) ?_
                          refine zr_aload_n (pc := 278) hV dX12_doOrder_278 rfl rfl ?_
                          refine zr_iload_n (pc := 279) hV dX12_doOrder_279 rfl rfl ?_
                          refine zr_iload_n (pc := 280) hV dX12_doOrder_280 rfl rfl ?_
                          refine zr_iload (pc := 281) hV dX12_doOrder_281 rfl ?_
                          refine zr_callVp (pc := 283) hV [ZI o, ZI bits, ZI (σ_78 6 ((18 * o) + (6 * x3_78)))] (st := [ZI 8, ZR 15]) (c_X12_addressOf (σ := σ_78) hσ_78 o bits (σ_78 6 ((18 * o) + (6 * x3_78))) (by omega) (by omega) (by omega) (zx_B_fr (fun i => hFσ_78 2 i (by omega)) (hFσ_78 0 2 (by omega)) q3)) dX12_doOrder_283 mX12_352 rfl (by decide) (by decide) (Nat.le_of_ble_eq_true rfl) (Nat.le_refl _) (fun r283 hr283 pr283 => ?_)
                          refine zr_iadd (pc := 286) hV dX12_doOrder_286 ?_
                          refine zr_iload (pc := 287) hV dX12_doOrder_287 rfl ?_
                          refine zr_iast (pc := 289) hV dX12_doOrder_289 rfl (by decide) rfl (by omega) (fun σ289 eσ289 => ?_)
                          have hσ289 : zx_T σ289 := zx_ua15 eσ289 hσ_78 (by omega)
                          have hFσ289 : ∀ a i : Int, (a ≠ 15) → σ289 a i = σ a i := fun a i h => by rw [eσ289, zq_up_ne (fun q => h q.1)]; exact hFσ_78 a i h
                          show V 290 [some (ZR 0), some (ZI o), some (ZI bits), some (ZI x3_78), some (ZI ((18 * o) + (6 * x3_78))), some (ZI r120), some (ZI v0_165), some (ZI (zq_and r180 r184)), some (ZI (σ_78 6 ((18 * o) + (6 * x3_78))))] [] 41 σ289
                          refine zr_iinc (pc := 290) hV [some (ZR 0), some (ZI o), some (ZI bits), some (ZI (x3_78 + 1)), some (ZI ((18 * o) + (6 * x3_78))), some (ZI r120), some (ZI v0_165), some (ZI (zq_and r180 r184)), some (ZI (σ_78 6 ((18 * o) + (6 * x3_78))))] (x3_78 + 1) dX12_doOrder_290 rfl rfl (by decide) rfl rfl ?_
                          refine zr_goto (pc := 293) hV 78 dX12_doOrder_293 (by decide) ?_
                          refine zr_sub (pc := 78) hV [some (ZR 0), some (ZI o), some (ZI bits), some (ZI (x3_78 + 1)), none, none, none, none, none] (⟨rfl, rfl, rfl, rfl, trivial⟩) ?_
                          exact ih78 (x3_78 + 1) σ289 (by omega) hσ289 hFσ289 (by omega)
                        · show V 256 [some (ZR 0), some (ZI o), some (ZI bits), some (ZI x3_78), some (ZI ((18 * o) + (6 * x3_78))), some (ZI r120), some (ZI v0_165), some (ZI (zq_and r180 r184)), some (ZI (σ_78 6 ((18 * o) + (6 * x3_78))))] [] 41 σ_78
                          refine zr_aload_n (pc := 256) hV dX12_doOrder_256 rfl rfl ?_
                          refine zr_getR (pc := 257) hV 24 15 dX12_doOrder_257 fX12_62 rfl rfl rfl (by decide) (zx_g24 hσ_78) (by omega) ?_
                          refine zr_sipush (pc := 260) hV 265 dX12_doOrder_260 (by decide) ?_
                          refine zr_iload (pc := 263) hV dX12_doOrder_263 rfl ?_
                          refine zr_bipush (pc := 265) hV 64 dX12_doOrder_265 (by decide) ?_
                          refine zr_irem (pc := 267) hV dX12_doOrder_267 ⟨by decide, by decide⟩ (by omega) ?_
                          have t49 := zq_rem_c (x := zq_and r180 r184) 64 (by decide) (by omega)
                          refine zr_iast (pc := 268) hV dX12_doOrder_268 rfl (by decide) rfl (by omega) (fun σ268 eσ268 => ?_)
                          have hσ268 : zx_T σ268 := zx_ua15 eσ268 hσ_78 (by omega)
                          have hFσ268 : ∀ a i : Int, (a ≠ 15) → σ268 a i = σ a i := fun a i h => by rw [eσ268, zq_up_ne (fun q => h q.1)]; exact hFσ_78 a i h
                          refine zr_goto (pc := 269) hV 290 dX12_doOrder_269 (by decide) ?_
                          show V 290 [some (ZR 0), some (ZI o), some (ZI bits), some (ZI x3_78), some (ZI ((18 * o) + (6 * x3_78))), some (ZI r120), some (ZI v0_165), some (ZI (zq_and r180 r184)), some (ZI (σ_78 6 ((18 * o) + (6 * x3_78))))] [] 41 σ268
                          refine zr_iinc (pc := 290) hV [some (ZR 0), some (ZI o), some (ZI bits), some (ZI (x3_78 + 1)), some (ZI ((18 * o) + (6 * x3_78))), some (ZI r120), some (ZI v0_165), some (ZI (zq_and r180 r184)), some (ZI (σ_78 6 ((18 * o) + (6 * x3_78))))] (x3_78 + 1) dX12_doOrder_290 rfl rfl (by decide) rfl rfl ?_
                          refine zr_goto (pc := 293) hV 78 dX12_doOrder_293 (by decide) ?_
                          refine zr_sub (pc := 78) hV [some (ZR 0), some (ZI o), some (ZI bits), some (ZI (x3_78 + 1)), none, none, none, none, none] (⟨rfl, rfl, rfl, rfl, trivial⟩) ?_
                          exact ih78 (x3_78 + 1) σ268 (by omega) hσ268 hFσ268 (by omega)
                      · show V 229 [some (ZR 0), some (ZI o), some (ZI bits), some (ZI x3_78), some (ZI ((18 * o) + (6 * x3_78))), some (ZI r120), some (ZI v0_165), some (ZI (zq_and r180 r184)), some (ZI (σ_78 6 ((18 * o) + (6 * x3_78))))] [] 41 σ_78
                        refine zr_aload_n (pc := 229) hV dX12_doOrder_229 rfl rfl ?_
                        refine zr_getR (pc := 230) hV 24 15 dX12_doOrder_230 fX12_62 rfl rfl rfl (by decide) (zx_g24 hσ_78) (by omega) ?_
                        refine zr_sipush (pc := 233) hV 264 dX12_doOrder_233 (by decide) ?_
                        refine zr_iload (pc := 236) hV dX12_doOrder_236 rfl ?_
                        refine zr_if_eq (pc := 238) hV 245 dX12_doOrder_238 (by decide) (by omega) (fun c50 => ?_) (fun c50 => ?_)
                        · show V 245 [some (ZR 0), some (ZI o), some (ZI bits), some (ZI x3_78), some (ZI ((18 * o) + (6 * x3_78))), some (ZI r120), some (ZI v0_165), some (ZI (zq_and r180 r184)), some (ZI (σ_78 6 ((18 * o) + (6 * x3_78))))] [ZI 264, ZR 15] 41 σ_78
                          refine zr_iconst (pc := 245) hV 0 dX12_doOrder_245 rfl ?_
                          show V 246 [some (ZR 0), some (ZI o), some (ZI bits), some (ZI x3_78), some (ZI ((18 * o) + (6 * x3_78))), some (ZI r120), some (ZI v0_165), some (ZI (zq_and r180 r184)), some (ZI (σ_78 6 ((18 * o) + (6 * x3_78))))] [ZI 0, ZI 264, ZR 15] 41 σ_78
                          refine zr_iast (pc := 246) hV dX12_doOrder_246 rfl (by decide) rfl (by omega) (fun σ246 eσ246 => ?_)
                          have hσ246 : zx_T σ246 := zx_ua15 eσ246 hσ_78 (by omega)
                          have hFσ246 : ∀ a i : Int, (a ≠ 15) → σ246 a i = σ a i := fun a i h => by rw [eσ246, zq_up_ne (fun q => h q.1)]; exact hFσ_78 a i h
                          refine zr_goto (pc := 247) hV 290 dX12_doOrder_247 (by decide) ?_
                          show V 290 [some (ZR 0), some (ZI o), some (ZI bits), some (ZI x3_78), some (ZI ((18 * o) + (6 * x3_78))), some (ZI r120), some (ZI v0_165), some (ZI (zq_and r180 r184)), some (ZI (σ_78 6 ((18 * o) + (6 * x3_78))))] [] 41 σ246
                          refine zr_iinc (pc := 290) hV [some (ZR 0), some (ZI o), some (ZI bits), some (ZI (x3_78 + 1)), some (ZI ((18 * o) + (6 * x3_78))), some (ZI r120), some (ZI v0_165), some (ZI (zq_and r180 r184)), some (ZI (σ_78 6 ((18 * o) + (6 * x3_78))))] (x3_78 + 1) dX12_doOrder_290 rfl rfl (by decide) rfl rfl ?_
                          refine zr_goto (pc := 293) hV 78 dX12_doOrder_293 (by decide) ?_
                          refine zr_sub (pc := 78) hV [some (ZR 0), some (ZI o), some (ZI bits), some (ZI (x3_78 + 1)), none, none, none, none, none] (⟨rfl, rfl, rfl, rfl, trivial⟩) ?_
                          exact ih78 (x3_78 + 1) σ246 (by omega) hσ246 hFσ246 (by omega)
                        · show V 241 [some (ZR 0), some (ZI o), some (ZI bits), some (ZI x3_78), some (ZI ((18 * o) + (6 * x3_78))), some (ZI r120), some (ZI v0_165), some (ZI (zq_and r180 r184)), some (ZI (σ_78 6 ((18 * o) + (6 * x3_78))))] [ZI 264, ZR 15] 41 σ_78
                          refine zr_iconst (pc := 241) hV 1 dX12_doOrder_241 rfl ?_
                          refine zr_goto (pc := 242) hV 246 dX12_doOrder_242 (by decide) ?_
                          show V 246 [some (ZR 0), some (ZI o), some (ZI bits), some (ZI x3_78), some (ZI ((18 * o) + (6 * x3_78))), some (ZI r120), some (ZI v0_165), some (ZI (zq_and r180 r184)), some (ZI (σ_78 6 ((18 * o) + (6 * x3_78))))] [ZI 1, ZI 264, ZR 15] 41 σ_78
                          refine zr_iast (pc := 246) hV dX12_doOrder_246 rfl (by decide) rfl (by omega) (fun σ246 eσ246 => ?_)
                          have hσ246 : zx_T σ246 := zx_ua15 eσ246 hσ_78 (by omega)
                          have hFσ246 : ∀ a i : Int, (a ≠ 15) → σ246 a i = σ a i := fun a i h => by rw [eσ246, zq_up_ne (fun q => h q.1)]; exact hFσ_78 a i h
                          refine zr_goto (pc := 247) hV 290 dX12_doOrder_247 (by decide) ?_
                          show V 290 [some (ZR 0), some (ZI o), some (ZI bits), some (ZI x3_78), some (ZI ((18 * o) + (6 * x3_78))), some (ZI r120), some (ZI v0_165), some (ZI (zq_and r180 r184)), some (ZI (σ_78 6 ((18 * o) + (6 * x3_78))))] [] 41 σ246
                          refine zr_iinc (pc := 290) hV [some (ZR 0), some (ZI o), some (ZI bits), some (ZI (x3_78 + 1)), some (ZI ((18 * o) + (6 * x3_78))), some (ZI r120), some (ZI v0_165), some (ZI (zq_and r180 r184)), some (ZI (σ_78 6 ((18 * o) + (6 * x3_78))))] (x3_78 + 1) dX12_doOrder_290 rfl rfl (by decide) rfl rfl ?_
                          refine zr_goto (pc := 293) hV 78 dX12_doOrder_293 (by decide) ?_
                          refine zr_sub (pc := 78) hV [some (ZR 0), some (ZI o), some (ZI bits), some (ZI (x3_78 + 1)), none, none, none, none, none] (⟨rfl, rfl, rfl, rfl, trivial⟩) ?_
                          exact ih78 (x3_78 + 1) σ246 (by omega) hσ246 hFσ246 (by omega)
                    · show V 205 [some (ZR 0), some (ZI o), some (ZI bits), some (ZI x3_78), some (ZI ((18 * o) + (6 * x3_78))), some (ZI r120), some (ZI v0_165), some (ZI (zq_and r180 r184)), some (ZI (σ_78 6 ((18 * o) + (6 * x3_78))))] [] 41 σ_78
                      refine zr_aload_n (pc := 205) hV dX12_doOrder_205 rfl rfl ?_
                      refine zr_getR (pc := 206) hV 24 15 dX12_doOrder_206 fX12_62 rfl rfl rfl (by decide) (zx_g24 hσ_78) (by omega) ?_
                      refine zr_aload_n (pc := 209) hV dX12_doOrder_209 rfl rfl ?_
                      refine zr_iload_n (pc := 210) hV dX12_doOrder_210 rfl rfl ?_
                      refine zr_iload_n (pc := 211) hV dX12_doOrder_211 rfl rfl ?_
                      refine zr_iload (pc := 212) hV dX12_doOrder_212 rfl ?_
                      refine zr_callVp (pc := 214) hV [ZI o, ZI bits, ZI (σ_78 6 ((18 * o) + (6 * x3_78)))] (st := [ZR 15]) (c_X12_fieldOf (σ := σ_78) hσ_78 o bits (σ_78 6 ((18 * o) + (6 * x3_78))) (by omega) (by omega) (by omega) (zx_B_fr (fun i => hFσ_78 2 i (by omega)) (hFσ_78 0 2 (by omega)) q3)) dX12_doOrder_214 mX12_289 rfl (by decide) (by decide) (Nat.le_of_ble_eq_true rfl) (Nat.le_refl _) (fun r214 hr214 pr214 => ?_)
                      refine zr_iload (pc := 217) hV dX12_doOrder_217 rfl ?_
                      refine zr_iast (pc := 219) hV dX12_doOrder_219 rfl (by decide) rfl (by omega) (fun σ219 eσ219 => ?_)
                      have hσ219 : zx_T σ219 := zx_ua15 eσ219 hσ_78 (by omega)
                      have hFσ219 : ∀ a i : Int, (a ≠ 15) → σ219 a i = σ a i := fun a i h => by rw [eσ219, zq_up_ne (fun q => h q.1)]; exact hFσ_78 a i h
                      refine zr_goto (pc := 220) hV 290 dX12_doOrder_220 (by decide) ?_
                      show V 290 [some (ZR 0), some (ZI o), some (ZI bits), some (ZI x3_78), some (ZI ((18 * o) + (6 * x3_78))), some (ZI r120), some (ZI v0_165), some (ZI (zq_and r180 r184)), some (ZI (σ_78 6 ((18 * o) + (6 * x3_78))))] [] 41 σ219
                      refine zr_iinc (pc := 290) hV [some (ZR 0), some (ZI o), some (ZI bits), some (ZI (x3_78 + 1)), some (ZI ((18 * o) + (6 * x3_78))), some (ZI r120), some (ZI v0_165), some (ZI (zq_and r180 r184)), some (ZI (σ_78 6 ((18 * o) + (6 * x3_78))))] (x3_78 + 1) dX12_doOrder_290 rfl rfl (by decide) rfl rfl ?_
                      refine zr_goto (pc := 293) hV 78 dX12_doOrder_293 (by decide) ?_
                      refine zr_sub (pc := 78) hV [some (ZR 0), some (ZI o), some (ZI bits), some (ZI (x3_78 + 1)), none, none, none, none, none] (⟨rfl, rfl, rfl, rfl, trivial⟩) ?_
                      exact ih78 (x3_78 + 1) σ219 (by omega) hσ219 hFσ219 (by omega)
                  refine zr_if_le (pc := 134) hV 164 dX12_doOrder_134 (by decide) (by omega) (fun c51 => ?_) (fun c51 => ?_)
                  · show V 164 [some (ZR 0), some (ZI o), some (ZI bits), some (ZI x3_78), some (ZI ((18 * o) + (6 * x3_78))), some (ZI r120), none, none, none] [] 41 σ_78
                    refine zr_iconst (pc := 164) hV 0 dX12_doOrder_164 rfl ?_
                    exact J165 0 (by omega)
                  · show V 137 [some (ZR 0), some (ZI o), some (ZI bits), some (ZI x3_78), some (ZI ((18 * o) + (6 * x3_78))), some (ZI r120), none, none, none] [] 41 σ_78
                    refine zr_aload_n (pc := 137) hV dX12_doOrder_137 rfl rfl ?_
                    refine zr_iload_n (pc := 138) hV dX12_doOrder_138 rfl rfl ?_
                    refine zr_iload_n (pc := 139) hV dX12_doOrder_139 rfl rfl ?_
                    refine zr_aload_n (pc := 140) hV dX12_doOrder_140 rfl rfl ?_
                    refine zr_getR (pc := 141) hV 9 6 dX12_doOrder_141 fX12_35 rfl rfl rfl (by decide) (zx_g9 hσ_78) (by omega) ?_
                    refine zr_iload (pc := 144) hV dX12_doOrder_144 rfl ?_
                    refine zr_iconst (pc := 146) hV 4 dX12_doOrder_146 rfl ?_
                    refine zr_iadd (pc := 147) hV dX12_doOrder_147 ?_
                    refine zr_iald (pc := 148) hV dX12_doOrder_148 rfl (by decide) rfl (by omega) ?_
                    have t52 := zx_ac4 hσ_78 (((18 * o) + (6 * x3_78)) + 4) (by omega)
                    have t53 : σ_78 6 (((18 * o) + (6 * x3_78)) + 4) = σ 6 (((18 * o) + (6 * x3_78)) + 4) := hFσ_78 _ _ (by omega)
                    have za := q2 x3_78 (by omega) (by omega)
                    refine zr_aload_n (pc := 149) hV dX12_doOrder_149 rfl rfl ?_
                    refine zr_getR (pc := 150) hV 9 6 dX12_doOrder_150 fX12_35 rfl rfl rfl (by decide) (zx_g9 hσ_78) (by omega) ?_
                    refine zr_iload (pc := 153) hV dX12_doOrder_153 rfl ?_
                    refine zr_iconst (pc := 155) hV 5 dX12_doOrder_155 rfl ?_
                    refine zr_iadd (pc := 156) hV dX12_doOrder_156 ?_
                    refine zr_iald (pc := 157) hV dX12_doOrder_157 rfl (by decide) rfl (by omega) ?_
                    have t54 := zx_ac hσ_78 (((18 * o) + (6 * x3_78)) + 5)
                    have t55 : σ_78 6 (((18 * o) + (6 * x3_78)) + 5) = σ 6 (((18 * o) + (6 * x3_78)) + 5) := hFσ_78 _ _ (by omega)
                    refine zr_callVp (pc := 158) hV [ZI o, ZI bits, ZI (σ_78 6 (((18 * o) + (6 * x3_78)) + 4)), ZI (σ_78 6 (((18 * o) + (6 * x3_78)) + 5))] (st := []) (c_X12_valueOf (σ := σ_78) hσ_78 o bits (σ_78 6 (((18 * o) + (6 * x3_78)) + 4)) (σ_78 6 (((18 * o) + (6 * x3_78)) + 5)) (by omega) (by omega) (by omega) (by omega) (zx_B_fr (fun i => hFσ_78 2 i (by omega)) (hFσ_78 0 2 (by omega)) q3)) dX12_doOrder_158 mX12_355 rfl (by decide) (by decide) (Nat.le_of_ble_eq_true rfl) (Nat.le_refl _) (fun r158 hr158 pr158 => ?_)
                    refine zr_goto (pc := 161) hV 165 dX12_doOrder_161 (by decide) ?_
                    exact J165 r158 (by omega)
            exact L78 (3 - (0 : Int) + 1 : Int).toNat 0 σ (by omega) hσ (fun a i _ => rfl) (by omega)
          · exfalso; omega
        · show V 67 [some (ZR 0), some (ZI o), some (ZI bits), some (ZI v0_47), none, none, none, none, none] [ZI 0] 41 σ
          refine zr_iconst (pc := 67) hV 1 dX12_doOrder_67 rfl ?_
          refine zr_goto (pc := 68) hV 72 dX12_doOrder_68 (by decide) ?_
          show V 72 [some (ZR 0), some (ZI o), some (ZI bits), some (ZI v0_47), none, none, none, none, none] [ZI 1, ZI 0] 41 σ
          refine zr_icmp_eq (pc := 72) hV 76 dX12_doOrder_72 (by decide) ⟨by decide, by decide⟩ ⟨by decide, by decide⟩ (fun c56 => ?_) (fun c56 => ?_)
          · exfalso; omega
          · show V 75 [some (ZR 0), some (ZI o), some (ZI bits), some (ZI v0_47), none, none, none, none, none] [] 41 σ
            exact zr_vret (pc := 75) hV dX12_doOrder_75 rfl rfl ⟨rfl, hσ, (fun a i _ => rfl), trivial⟩
      · show V 52 [some (ZR 0), some (ZI o), some (ZI bits), some (ZI v0_47), none, none, none, none, none] [] 41 σ
        refine zr_iconst (pc := 52) hV 1 dX12_doOrder_52 rfl ?_
        refine zr_goto (pc := 53) hV 57 dX12_doOrder_53 (by decide) ?_
        show V 57 [some (ZR 0), some (ZI o), some (ZI bits), some (ZI v0_47), none, none, none, none, none] [ZI 1] 41 σ
        refine zr_aload_n (pc := 57) hV dX12_doOrder_57 rfl rfl ?_
        refine zr_getR (pc := 58) hV 6 3 dX12_doOrder_58 fX12_26 rfl rfl rfl (by decide) (zx_g6 hσ) (by omega) ?_
        refine zr_iload_n (pc := 61) hV dX12_doOrder_61 rfl rfl ?_
        refine zr_iald (pc := 62) hV dX12_doOrder_62 rfl (by decide) rfl (by omega) ?_
        have t57 := zx_ga3 hσ o
        refine zr_iconst (pc := 63) hV 1 dX12_doOrder_63 rfl ?_
        refine zr_icmp_ne (pc := 64) hV 71 dX12_doOrder_64 (by decide) (by omega) ⟨by decide, by decide⟩ (fun c58 => ?_) (fun c58 => ?_)
        · show V 71 [some (ZR 0), some (ZI o), some (ZI bits), some (ZI v0_47), none, none, none, none, none] [ZI 1] 41 σ
          refine zr_iconst (pc := 71) hV 0 dX12_doOrder_71 rfl ?_
          show V 72 [some (ZR 0), some (ZI o), some (ZI bits), some (ZI v0_47), none, none, none, none, none] [ZI 0, ZI 1] 41 σ
          refine zr_icmp_eq (pc := 72) hV 76 dX12_doOrder_72 (by decide) ⟨by decide, by decide⟩ ⟨by decide, by decide⟩ (fun c59 => ?_) (fun c59 => ?_)
          · exfalso; omega
          · show V 75 [some (ZR 0), some (ZI o), some (ZI bits), some (ZI v0_47), none, none, none, none, none] [] 41 σ
            exact zr_vret (pc := 75) hV dX12_doOrder_75 rfl rfl ⟨rfl, hσ, (fun a i _ => rfl), trivial⟩
        · show V 67 [some (ZR 0), some (ZI o), some (ZI bits), some (ZI v0_47), none, none, none, none, none] [ZI 1] 41 σ
          refine zr_iconst (pc := 67) hV 1 dX12_doOrder_67 rfl ?_
          refine zr_goto (pc := 68) hV 72 dX12_doOrder_68 (by decide) ?_
          show V 72 [some (ZR 0), some (ZI o), some (ZI bits), some (ZI v0_47), none, none, none, none, none] [ZI 1, ZI 1] 41 σ
          refine zr_icmp_eq (pc := 72) hV 76 dX12_doOrder_72 (by decide) ⟨by decide, by decide⟩ ⟨by decide, by decide⟩ (fun c60 => ?_) (fun c60 => ?_)
          · show V 76 [some (ZR 0), some (ZI o), some (ZI bits), some (ZI v0_47), none, none, none, none, none] [] 41 σ
            refine zr_iconst (pc := 76) hV 0 dX12_doOrder_76 rfl ?_
            refine zr_istore_n (pc := 77) hV [some (ZR 0), some (ZI o), some (ZI bits), some (ZI 0), none, none, none, none, none] dX12_doOrder_77 rfl (by decide) rfl rfl ?_
            have L78 : ∀ (fuel : Nat) (x3_78 : Int) (σ_78 : zq_S), (0 ≤ x3_78 ∧ x3_78 ≤ 3) → (zx_T σ_78) → (∀ a i : Int, (a ≠ 15) → σ_78 a i = σ a i) → 3 - x3_78 < (fuel : Int) → V 78 [some (ZR 0), some (ZI o), some (ZI bits), some (ZI x3_78), none, none, none, none, none] [] 41 σ_78 := by
              intro fuel
              induction fuel with
              | zero =>
                intro x3_78 σ_78 hx3_78 hσ_78 hFσ_78 hm78
                exfalso; omega
              | succ fuel ih =>
                intro x3_78 σ_78 hx3_78 hσ_78 hFσ_78 hm78
                have ih78 := ih
                show V 78 [some (ZR 0), some (ZI o), some (ZI bits), some (ZI x3_78), none, none, none, none, none] [] 41 σ_78
                refine zr_iload_n (pc := 78) hV dX12_doOrder_78 rfl rfl ?_
                refine zr_aload_n (pc := 79) hV dX12_doOrder_79 rfl rfl ?_
                refine zr_getR (pc := 80) hV 8 5 dX12_doOrder_80 fX12_32 rfl rfl rfl (by decide) (zx_g8 hσ_78) (by omega) ?_
                refine zr_iload_n (pc := 83) hV dX12_doOrder_83 rfl rfl ?_
                refine zr_iald (pc := 84) hV dX12_doOrder_84 rfl (by decide) rfl (by omega) ?_
                have t61 := zx_ga5 hσ_78 o
                have t62 : σ_78 5 o = σ 5 o := hFσ_78 _ _ (by omega)
                refine zr_icmp_ge (pc := 85) hV 296 dX12_doOrder_85 (by decide) (by omega) (by omega) (fun c63 => ?_) (fun c63 => ?_)
                · show V 296 [some (ZR 0), some (ZI o), some (ZI bits), some (ZI x3_78), none, none, none, none, none] [] 41 σ_78
                  exact zr_vret (pc := 296) hV dX12_doOrder_296 rfl rfl ⟨rfl, hσ_78, hFσ_78, trivial⟩
                · show V 88 [some (ZR 0), some (ZI o), some (ZI bits), some (ZI x3_78), none, none, none, none, none] [] 41 σ_78
                  refine zr_bipush (pc := 88) hV 18 dX12_doOrder_88 (by decide) ?_
                  refine zr_iload_n (pc := 90) hV dX12_doOrder_90 rfl rfl ?_
                  refine zr_imul (pc := 91) hV dX12_doOrder_91 ?_
                  refine zr_bipush (pc := 92) hV 6 dX12_doOrder_92 (by decide) ?_
                  refine zr_iload_n (pc := 94) hV dX12_doOrder_94 rfl rfl ?_
                  refine zr_imul (pc := 95) hV dX12_doOrder_95 ?_
                  refine zr_iadd (pc := 96) hV dX12_doOrder_96 ?_
                  refine zr_istore (pc := 97) hV [some (ZR 0), some (ZI o), some (ZI bits), some (ZI x3_78), some (ZI ((18 * o) + (6 * x3_78))), none, none, none, none] dX12_doOrder_97 (by decide) rfl rfl ?_
                  refine zr_aload_n (pc := 99) hV dX12_doOrder_99 rfl rfl ?_
                  refine zr_iload_n (pc := 100) hV dX12_doOrder_100 rfl rfl ?_
                  refine zr_iload_n (pc := 101) hV dX12_doOrder_101 rfl rfl ?_
                  refine zr_aload_n (pc := 102) hV dX12_doOrder_102 rfl rfl ?_
                  refine zr_getR (pc := 103) hV 9 6 dX12_doOrder_103 fX12_35 rfl rfl rfl (by decide) (zx_g9 hσ_78) (by omega) ?_
                  refine zr_iload (pc := 106) hV dX12_doOrder_106 rfl ?_
                  refine zr_iconst (pc := 108) hV 1 dX12_doOrder_108 rfl ?_
                  refine zr_iadd (pc := 109) hV dX12_doOrder_109 ?_
                  refine zr_iald (pc := 110) hV dX12_doOrder_110 rfl (by decide) rfl (by omega) ?_
                  have t64 := zx_ac1 hσ_78 (((18 * o) + (6 * x3_78)) + 1) (by omega)
                  have t65 : σ_78 6 (((18 * o) + (6 * x3_78)) + 1) = σ 6 (((18 * o) + (6 * x3_78)) + 1) := hFσ_78 _ _ (by omega)
                  refine zr_aload_n (pc := 111) hV dX12_doOrder_111 rfl rfl ?_
                  refine zr_getR (pc := 112) hV 9 6 dX12_doOrder_112 fX12_35 rfl rfl rfl (by decide) (zx_g9 hσ_78) (by omega) ?_
                  refine zr_iload (pc := 115) hV dX12_doOrder_115 rfl ?_
                  refine zr_iconst (pc := 117) hV 2 dX12_doOrder_117 rfl ?_
                  refine zr_iadd (pc := 118) hV dX12_doOrder_118 ?_
                  refine zr_iald (pc := 119) hV dX12_doOrder_119 rfl (by decide) rfl (by omega) ?_
                  have t66 := zx_ac hσ_78 (((18 * o) + (6 * x3_78)) + 2)
                  have t67 : σ_78 6 (((18 * o) + (6 * x3_78)) + 2) = σ 6 (((18 * o) + (6 * x3_78)) + 2) := hFσ_78 _ _ (by omega)
                  refine zr_callVp (pc := 120) hV [ZI o, ZI bits, ZI (σ_78 6 (((18 * o) + (6 * x3_78)) + 1)), ZI (σ_78 6 (((18 * o) + (6 * x3_78)) + 2))] (st := []) (c_X12_valueOf (σ := σ_78) hσ_78 o bits (σ_78 6 (((18 * o) + (6 * x3_78)) + 1)) (σ_78 6 (((18 * o) + (6 * x3_78)) + 2)) (by omega) (by omega) (by omega) (by omega) (zx_B_fr (fun i => hFσ_78 2 i (by omega)) (hFσ_78 0 2 (by omega)) q3)) dX12_doOrder_120 mX12_355 rfl (by decide) (by decide) (Nat.le_of_ble_eq_true rfl) (Nat.le_refl _) (fun r120 hr120 pr120 => ?_)
                  refine zr_istore (pc := 123) hV [some (ZR 0), some (ZI o), some (ZI bits), some (ZI x3_78), some (ZI ((18 * o) + (6 * x3_78))), some (ZI r120), none, none, none] dX12_doOrder_123 (by decide) rfl rfl ?_
                  refine zr_aload_n (pc := 125) hV dX12_doOrder_125 rfl rfl ?_
                  refine zr_getR (pc := 126) hV 9 6 dX12_doOrder_126 fX12_35 rfl rfl rfl (by decide) (zx_g9 hσ_78) (by omega) ?_
                  refine zr_iload (pc := 129) hV dX12_doOrder_129 rfl ?_
                  refine zr_iconst (pc := 131) hV 3 dX12_doOrder_131 rfl ?_
                  refine zr_iadd (pc := 132) hV dX12_doOrder_132 ?_
                  refine zr_iald (pc := 133) hV dX12_doOrder_133 rfl (by decide) rfl (by omega) ?_
                  have t68 := zx_ac3 hσ_78 (((18 * o) + (6 * x3_78)) + 3) (by omega)
                  have t69 : σ_78 6 (((18 * o) + (6 * x3_78)) + 3) = σ 6 (((18 * o) + (6 * x3_78)) + 3) := hFσ_78 _ _ (by omega)
                  have J165 : ∀ (v0_165 : Int), (0 ≤ v0_165 ∧ v0_165 ≤ 255) → V 165 [some (ZR 0), some (ZI o), some (ZI bits), some (ZI x3_78), some (ZI ((18 * o) + (6 * x3_78))), some (ZI r120), none, none, none] [ZI v0_165] 41 σ_78 := by
                    intro v0_165 hv0_165
                    show V 165 [some (ZR 0), some (ZI o), some (ZI bits), some (ZI x3_78), some (ZI ((18 * o) + (6 * x3_78))), some (ZI r120), none, none, none] [ZI v0_165] 41 σ_78
                    refine zr_istore (pc := 165) hV [some (ZR 0), some (ZI o), some (ZI bits), some (ZI x3_78), some (ZI ((18 * o) + (6 * x3_78))), some (ZI r120), some (ZI v0_165), none, none] dX12_doOrder_165 (by decide) rfl rfl ?_
                    refine zr_aload_n (pc := 167) hV dX12_doOrder_167 rfl rfl ?_
                    refine zr_getR (pc := 168) hV 9 6 dX12_doOrder_168 fX12_35 rfl rfl rfl (by decide) (zx_g9 hσ_78) (by omega) ?_
                    refine zr_iload (pc := 171) hV dX12_doOrder_171 rfl ?_
                    refine zr_iconst (pc := 173) hV 3 dX12_doOrder_173 rfl ?_
                    refine zr_iadd (pc := 174) hV dX12_doOrder_174 ?_
                    refine zr_iald (pc := 175) hV dX12_doOrder_175 rfl (by decide) rfl (by omega) ?_
                    have t70 := zx_ac3 hσ_78 (((18 * o) + (6 * x3_78)) + 3) (by omega)
                    have t71 : σ_78 6 (((18 * o) + (6 * x3_78)) + 3) = σ 6 (((18 * o) + (6 * x3_78)) + 3) := hFσ_78 _ _ (by omega)
                    refine zr_iload (pc := 176) hV dX12_doOrder_176 rfl ?_
                    refine zr_iload (pc := 178) hV dX12_doOrder_178 rfl ?_
                    refine zr_callSp (pc := 180) hV [ZI (σ_78 6 (((18 * o) + (6 * x3_78)) + 3)), ZI r120, ZI v0_165] (st := []) (c_X12_reckon (σ := σ_78) (σ_78 6 (((18 * o) + (6 * x3_78)) + 3)) r120 v0_165 (by omega) (by omega) (by omega)) dX12_doOrder_180 mX12_304 (by decide) (Nat.le_of_ble_eq_true rfl) (Nat.le_refl _) (fun r180 hr180 pr180 => ?_)
                    refine zr_aload_n (pc := 183) hV dX12_doOrder_183 rfl rfl ?_
                    refine zr_callVp (pc := 184) hV [] (st := [ZI r180]) (c_X12_mask (σ := σ_78) hσ_78 ) dX12_doOrder_184 mX12_346 rfl (by decide) (by decide) (Nat.le_of_ble_eq_true rfl) (Nat.le_refl _) (fun r184 hr184 pr184 => ?_)
                    refine zr_iand (pc := 187) hV dX12_doOrder_187 ?_
                    have t72 := zq_and_nnR (x := r180) (y := r184) (by omega)
                    refine zr_istore (pc := 188) hV [some (ZR 0), some (ZI o), some (ZI bits), some (ZI x3_78), some (ZI ((18 * o) + (6 * x3_78))), some (ZI r120), some (ZI v0_165), some (ZI (zq_and r180 r184)), none] dX12_doOrder_188 (by decide) rfl rfl ?_
                    refine zr_aload_n (pc := 190) hV dX12_doOrder_190 rfl rfl ?_
                    refine zr_getR (pc := 191) hV 9 6 dX12_doOrder_191 fX12_35 rfl rfl rfl (by decide) (zx_g9 hσ_78) (by omega) ?_
                    refine zr_iload (pc := 194) hV dX12_doOrder_194 rfl ?_
                    refine zr_iald (pc := 196) hV dX12_doOrder_196 rfl (by decide) rfl (by omega) ?_
                    have t73 := zx_ac0 hσ_78 ((18 * o) + (6 * x3_78)) (by omega)
                    have t74 : σ_78 6 ((18 * o) + (6 * x3_78)) = σ 6 ((18 * o) + (6 * x3_78)) := hFσ_78 _ _ (by omega)
                    refine zr_istore (pc := 197) hV [some (ZR 0), some (ZI o), some (ZI bits), some (ZI x3_78), some (ZI ((18 * o) + (6 * x3_78))), some (ZI r120), some (ZI v0_165), some (ZI (zq_and r180 r184)), some (ZI (σ_78 6 ((18 * o) + (6 * x3_78))))] dX12_doOrder_197 (by decide) rfl rfl ?_
                    refine zr_iload (pc := 199) hV dX12_doOrder_199 rfl ?_
                    refine zr_iconst (pc := 201) hV 3 dX12_doOrder_201 rfl ?_
                    refine zr_icmp_ge (pc := 202) hV 223 dX12_doOrder_202 (by decide) (by omega) ⟨by decide, by decide⟩ (fun c75 => ?_) (fun c75 => ?_)
                    · show V 223 [some (ZR 0), some (ZI o), some (ZI bits), some (ZI x3_78), some (ZI ((18 * o) + (6 * x3_78))), some (ZI r120), some (ZI v0_165), some (ZI (zq_and r180 r184)), some (ZI (σ_78 6 ((18 * o) + (6 * x3_78))))] [] 41 σ_78
                      refine zr_iload (pc := 223) hV dX12_doOrder_223 rfl ?_
                      refine zr_iconst (pc := 225) hV 4 dX12_doOrder_225 rfl ?_
                      refine zr_icmp_ne (pc := 226) hV 250 dX12_doOrder_226 (by decide) (by omega) ⟨by decide, by decide⟩ (fun c76 => ?_) (fun c76 => ?_)
                      · show V 250 [some (ZR 0), some (ZI o), some (ZI bits), some (ZI x3_78), some (ZI ((18 * o) + (6 * x3_78))), some (ZI r120), some (ZI v0_165), some (ZI (zq_and r180 r184)), some (ZI (σ_78 6 ((18 * o) + (6 * x3_78))))] [] 41 σ_78
                        refine zr_iload (pc := 250) hV dX12_doOrder_250 rfl ?_
                        refine zr_iconst (pc := 252) hV 5 dX12_doOrder_252 rfl ?_
                        refine zr_icmp_ne (pc := 253) hV 272 dX12_doOrder_253 (by decide) (by omega) ⟨by decide, by decide⟩ (fun c77 => ?_) (fun c77 => ?_)
                        · show V 272 [some (ZR 0), some (ZI o), some (ZI bits), some (ZI x3_78), some (ZI ((18 * o) + (6 * x3_78))), some (ZI r120), some (ZI v0_165), some (ZI (zq_and r180 r184)), some (ZI (σ_78 6 ((18 * o) + (6 * x3_78))))] [] 41 σ_78
                          refine zr_aload_n (pc := 272) hV dX12_doOrder_272 rfl rfl ?_
                          refine zr_getR (pc := 273) hV 24 15 dX12_doOrder_273 fX12_62 rfl rfl rfl (by decide) (zx_g24 hσ_78) (by omega) ?_
                          refine zr_bipush (pc := 276) hV 8 dX12_doOrder_276 (by decide) ?_
                          refine zr_aload_n (pc := 278) hV dX12_doOrder_278 rfl rfl ?_
                          refine zr_iload_n (pc := 279) hV dX12_doOrder_279 rfl rfl ?_
                          refine zr_iload_n (pc := 280) hV dX12_doOrder_280 rfl rfl ?_
                          refine zr_iload (pc := 281) hV dX12_doOrder_281 rfl ?_
                          refine zr_callVp (pc := 283) hV [ZI o, ZI bits, ZI (σ_78 6 ((18 * o) + (6 * x3_78)))] (st := [ZI 8, ZR 15]) (c_X12_addressOf (σ := σ_78) hσ_78 o bits (σ_78 6 ((18 * o) + (6 * x3_78))) (by omega) (by omega) (by omega) (zx_B_fr (fun i => hFσ_78 2 i (by omega)) (hFσ_78 0 2 (by omega)) q3)) dX12_doOrder_283 mX12_352 rfl (by decide) (by decide) (Nat.le_of_ble_eq_true rfl) (Nat.le_refl _) (fun r283 hr283 pr283 => ?_)
                          refine zr_iadd (pc := 286) hV dX12_doOrder_286 ?_
                          refine zr_iload (pc := 287) hV dX12_doOrder_287 rfl ?_
                          refine zr_iast (pc := 289) hV dX12_doOrder_289 rfl (by decide) rfl (by omega) (fun σ289 eσ289 => ?_)
                          have hσ289 : zx_T σ289 := zx_ua15 eσ289 hσ_78 (by omega)
                          have hFσ289 : ∀ a i : Int, (a ≠ 15) → σ289 a i = σ a i := fun a i h => by rw [eσ289, zq_up_ne (fun q => h q.1)]; exact hFσ_78 a i h
                          show V 290 [some (ZR 0), some (ZI o), some (ZI bits), some (ZI x3_78), some (ZI ((18 * o) + (6 * x3_78))), some (ZI r120), some (ZI v0_165), some (ZI (zq_and r180 r184)), some (ZI (σ_78 6 ((18 * o) + (6 * x3_78))))] [] 41 σ289
                          refine zr_iinc (pc := 290) hV [some (ZR 0), some (ZI o), some (ZI bits), some (ZI (x3_78 + 1)), some (ZI ((18 * o) + (6 * x3_78))), some (ZI r120), some (ZI v0_165), some (ZI (zq_and r180 r184)), some (ZI (σ_78 6 ((18 * o) + (6 * x3_78))))] (x3_78 + 1) dX12_doOrder_290 rfl rfl (by decide) rfl rfl ?_
                          refine zr_goto (pc := 293) hV 78 dX12_doOrder_293 (by decide) ?_
                          refine zr_sub (pc := 78) hV [some (ZR 0), some (ZI o), some (ZI bits), some (ZI (x3_78 + 1)), none, none, none, none, none] (⟨rfl, rfl, rfl, rfl, trivial⟩) ?_
                          exact ih78 (x3_78 + 1) σ289 (by omega) hσ289 hFσ289 (by omega)
                        · show V 256 [some (ZR 0), some (ZI o), some (ZI bits), some (ZI x3_78), some (ZI ((18 * o) + (6 * x3_78))), some (ZI r120), some (ZI v0_165), some (ZI (zq_and r180 r184)), some (ZI (σ_78 6 ((18 * o) + (6 * x3_78))))] [] 41 σ_78
                          refine zr_aload_n (pc := 256) hV dX12_doOrder_256 rfl rfl ?_
                          refine zr_getR (pc := 257) hV 24 15 dX12_doOrder_257 fX12_62 rfl rfl rfl (by decide) (zx_g24 hσ_78) (by omega) ?_
                          refine zr_sipush (pc := 260) hV 265 dX12_doOrder_260 (by decide) ?_
                          refine zr_iload (pc := 263) hV dX12_doOrder_263 rfl ?_
                          refine zr_bipush (pc := 265) hV 64 dX12_doOrder_265 (by decide) ?_
                          refine zr_irem (pc := 267) hV dX12_doOrder_267 ⟨by decide, by decide⟩ (by omega) ?_
                          have t78 := zq_rem_c (x := zq_and r180 r184) 64 (by decide) (by omega)
                          refine zr_iast (pc := 268) hV dX12_doOrder_268 rfl (by decide) rfl (by omega) (fun σ268 eσ268 => ?_)
                          have hσ268 : zx_T σ268 := zx_ua15 eσ268 hσ_78 (by omega)
                          have hFσ268 : ∀ a i : Int, (a ≠ 15) → σ268 a i = σ a i := fun a i h => by rw [eσ268, zq_up_ne (fun q => h q.1)]; exact hFσ_78 a i h
                          refine zr_goto (pc := 269) hV 290 dX12_doOrder_269 (by decide) ?_
                          show V 290 [some (ZR 0), some (ZI o), some (ZI bits), some (ZI x3_78), some (ZI ((18 * o) + (6 * x3_78))), some (ZI r120), some (ZI v0_165), some (ZI (zq_and r180 r184)), some (ZI (σ_78 6 ((18 * o) + (6 * x3_78))))] [] 41 σ268
                          refine zr_iinc (pc := 290) hV [some (ZR 0), some (ZI o), some (ZI bits), some (ZI (x3_78 + 1)), some (ZI ((18 * o) + (6 * x3_78))), some (ZI r120), some (ZI v0_165), some (ZI (zq_and r180 r184)), some (ZI (σ_78 6 ((18 * o) + (6 * x3_78))))] (x3_78 + 1) dX12_doOrder_290 rfl rfl (by decide) rfl rfl ?_
                          refine zr_goto (pc := 293) hV 78 dX12_doOrder_293 (by decide) ?_
                          refine zr_sub (pc := 78) hV [some (ZR 0), some (ZI o), some (ZI bits), some (ZI (x3_78 + 1)), none, none, none, none, none] (⟨rfl, rfl, rfl, rfl, trivial⟩) ?_
                          exact ih78 (x3_78 + 1) σ268 (by omega) hσ268 hFσ268 (by omega)
                      · show V 229 [some (ZR 0), some (ZI o), some (ZI bits), some (ZI x3_78), some (ZI ((18 * o) + (6 * x3_78))), some (ZI r120), some (ZI v0_165), some (ZI (zq_and r180 r184)), some (ZI (σ_78 6 ((18 * o) + (6 * x3_78))))] [] 41 σ_78
                        refine zr_aload_n (pc := 229) hV dX12_doOrder_229 rfl rfl ?_
                        refine zr_getR (pc := 230) hV 24 15 dX12_doOrder_230 fX12_62 rfl rfl rfl (by decide) (zx_g24 hσ_78) (by omega) ?_
                        refine zr_sipush (pc := 233) hV 264 dX12_doOrder_233 (by decide) ?_
                        refine zr_iload (pc := 236) hV dX12_doOrder_236 rfl ?_
                        refine zr_if_eq (pc := 238) hV 245 dX12_doOrder_238 (by decide) (by omega) (fun c79 => ?_) (fun c79 => ?_)
                        · show V 245 [some (ZR 0), some (ZI o), some (ZI bits), some (ZI x3_78), some (ZI ((18 * o) + (6 * x3_78))), some (ZI r120), some (ZI v0_165), some (ZI (zq_and r180 r184)), some (ZI (σ_78 6 ((18 * o) + (6 * x3_78))))] [ZI 264, ZR 15] 41 σ_78
                          refine zr_iconst (pc := 245) hV 0 dX12_doOrder_245 rfl ?_
                          show V 246 [some (ZR 0), some (ZI o), some (ZI bits), some (ZI x3_78), some (ZI ((18 * o) + (6 * x3_78))), some (ZI r120), some (ZI v0_165), some (ZI (zq_and r180 r184)), some (ZI (σ_78 6 ((18 * o) + (6 * x3_78))))] [ZI 0, ZI 264, ZR 15] 41 σ_78
                          refine zr_iast (pc := 246) hV dX12_doOrder_246 rfl (by decide) rfl (by omega) (fun σ246 eσ246 => ?_)
                          have hσ246 : zx_T σ246 := zx_ua15 eσ246 hσ_78 (by omega)
                          have hFσ246 : ∀ a i : Int, (a ≠ 15) → σ246 a i = σ a i := fun a i h => by rw [eσ246, zq_up_ne (fun q => h q.1)]; exact hFσ_78 a i h
                          refine zr_goto (pc := 247) hV 290 dX12_doOrder_247 (by decide) ?_
                          show V 290 [some (ZR 0), some (ZI o), some (ZI bits), some (ZI x3_78), some (ZI ((18 * o) + (6 * x3_78))), some (ZI r120), some (ZI v0_165), some (ZI (zq_and r180 r184)), some (ZI (σ_78 6 ((18 * o) + (6 * x3_78))))] [] 41 σ246
                          refine zr_iinc (pc := 290) hV [some (ZR 0), some (ZI o), some (ZI bits), some (ZI (x3_78 + 1)), some (ZI ((18 * o) + (6 * x3_78))), some (ZI r120), some (ZI v0_165), some (ZI (zq_and r180 r184)), some (ZI (σ_78 6 ((18 * o) + (6 * x3_78))))] (x3_78 + 1) dX12_doOrder_290 rfl rfl (by decide) rfl rfl ?_
                          refine zr_goto (pc := 293) hV 78 dX12_doOrder_293 (by decide) ?_
                          refine zr_sub (pc := 78) hV [some (ZR 0), some (ZI o), some (ZI bits), some (ZI (x3_78 + 1)), none, none, none, none, none] (⟨rfl, rfl, rfl, rfl, trivial⟩) ?_
                          exact ih78 (x3_78 + 1) σ246 (by omega) hσ246 hFσ246 (by omega)
                        · show V 241 [some (ZR 0), some (ZI o), some (ZI bits), some (ZI x3_78), some (ZI ((18 * o) + (6 * x3_78))), some (ZI r120), some (ZI v0_165), some (ZI (zq_and r180 r184)), some (ZI (σ_78 6 ((18 * o) + (6 * x3_78))))] [ZI 264, ZR 15] 41 σ_78
                          refine zr_iconst (pc := 241) hV 1 dX12_doOrder_241 rfl ?_
                          refine zr_goto (pc := 242) hV 246 dX12_doOrder_242 (by decide) ?_
                          show V 246 [some (ZR 0), some (ZI o), some (ZI bits), some (ZI x3_78), some (ZI ((18 * o) + (6 * x3_78))), some (ZI r120), some (ZI v0_165), some (ZI (zq_and r180 r184)), some (ZI (σ_78 6 ((18 * o) + (6 * x3_78))))] [ZI 1, ZI 264, ZR 15] 41 σ_78
                          refine zr_iast (pc := 246) hV dX12_doOrder_246 rfl (by decide) rfl (by omega) (fun σ246 eσ246 => ?_)
                          have hσ246 : zx_T σ246 := zx_ua15 eσ246 hσ_78 (by omega)
                          have hFσ246 : ∀ a i : Int, (a ≠ 15) → σ246 a i = σ a i := fun a i h => by rw [eσ246, zq_up_ne (fun q => h q.1)]; exact hFσ_78 a i h
                          refine zr_goto (pc := 247) hV 290 dX12_doOrder_247 (by decide) ?_
                          show V 290 [some (ZR 0), some (ZI o), some (ZI bits), some (ZI x3_78), some (ZI ((18 * o) + (6 * x3_78))), some (ZI r120), some (ZI v0_165), some (ZI (zq_and r180 r184)), some (ZI (σ_78 6 ((18 * o) + (6 * x3_78))))] [] 41 σ246
                          refine zr_iinc (pc := 290) hV [some (ZR 0), some (ZI o), some (ZI bits), some (ZI (x3_78 + 1)), some (ZI ((18 * o) + (6 * x3_78))), some (ZI r120), some (ZI v0_165), some (ZI (zq_and r180 r184)), some (ZI (σ_78 6 ((18 * o) + (6 * x3_78))))] (x3_78 + 1) dX12_doOrder_290 rfl rfl (by decide) rfl rfl ?_
                          refine zr_goto (pc := 293) hV 78 dX12_doOrder_293 (by decide) ?_
                          refine zr_sub (pc := 78) hV [some (ZR 0), some (ZI o), some (ZI bits), some (ZI (x3_78 + 1)), none, none, none, none, none] (⟨rfl, rfl, rfl, rfl, trivial⟩) ?_
                          exact ih78 (x3_78 + 1) σ246 (by omega) hσ246 hFσ246 (by omega)
                    · show V 205 [some (ZR 0), some (ZI o), some (ZI bits), some (ZI x3_78), some (ZI ((18 * o) + (6 * x3_78))), some (ZI r120), some (ZI v0_165), some (ZI (zq_and r180 r184)), some (ZI (σ_78 6 ((18 * o) + (6 * x3_78))))] [] 41 σ_78
                      refine zr_aload_n (pc := 205) hV dX12_doOrder_205 rfl rfl ?_
                      refine zr_getR (pc := 206) hV 24 15 dX12_doOrder_206 fX12_62 rfl rfl rfl (by decide) (zx_g24 hσ_78) (by omega) ?_
                      refine zr_aload_n (pc := 209) hV dX12_doOrder_209 rfl rfl ?_
                      refine zr_iload_n (pc := 210) hV dX12_doOrder_210 rfl rfl ?_
                      refine zr_iload_n (pc := 211) hV dX12_doOrder_211 rfl rfl ?_
                      refine zr_iload (pc := 212) hV dX12_doOrder_212 rfl ?_
                      refine zr_callVp (pc := 214) hV [ZI o, ZI bits, ZI (σ_78 6 ((18 * o) + (6 * x3_78)))] (st := [ZR 15]) (c_X12_fieldOf (σ := σ_78) hσ_78 o bits (σ_78 6 ((18 * o) + (6 * x3_78))) (by omega) (by omega) (by omega) (zx_B_fr (fun i => hFσ_78 2 i (by omega)) (hFσ_78 0 2 (by omega)) q3)) dX12_doOrder_214 mX12_289 rfl (by decide) (by decide) (Nat.le_of_ble_eq_true rfl) (Nat.le_refl _) (fun r214 hr214 pr214 => ?_)
                      refine zr_iload (pc := 217) hV dX12_doOrder_217 rfl ?_
                      refine zr_iast (pc := 219) hV dX12_doOrder_219 rfl (by decide) rfl (by omega) (fun σ219 eσ219 => ?_)
                      have hσ219 : zx_T σ219 := zx_ua15 eσ219 hσ_78 (by omega)
                      have hFσ219 : ∀ a i : Int, (a ≠ 15) → σ219 a i = σ a i := fun a i h => by rw [eσ219, zq_up_ne (fun q => h q.1)]; exact hFσ_78 a i h
                      refine zr_goto (pc := 220) hV 290 dX12_doOrder_220 (by decide) ?_
                      show V 290 [some (ZR 0), some (ZI o), some (ZI bits), some (ZI x3_78), some (ZI ((18 * o) + (6 * x3_78))), some (ZI r120), some (ZI v0_165), some (ZI (zq_and r180 r184)), some (ZI (σ_78 6 ((18 * o) + (6 * x3_78))))] [] 41 σ219
                      refine zr_iinc (pc := 290) hV [some (ZR 0), some (ZI o), some (ZI bits), some (ZI (x3_78 + 1)), some (ZI ((18 * o) + (6 * x3_78))), some (ZI r120), some (ZI v0_165), some (ZI (zq_and r180 r184)), some (ZI (σ_78 6 ((18 * o) + (6 * x3_78))))] (x3_78 + 1) dX12_doOrder_290 rfl rfl (by decide) rfl rfl ?_
                      refine zr_goto (pc := 293) hV 78 dX12_doOrder_293 (by decide) ?_
                      refine zr_sub (pc := 78) hV [some (ZR 0), some (ZI o), some (ZI bits), some (ZI (x3_78 + 1)), none, none, none, none, none] (⟨rfl, rfl, rfl, rfl, trivial⟩) ?_
                      exact ih78 (x3_78 + 1) σ219 (by omega) hσ219 hFσ219 (by omega)
                  refine zr_if_le (pc := 134) hV 164 dX12_doOrder_134 (by decide) (by omega) (fun c80 => ?_) (fun c80 => ?_)
                  · show V 164 [some (ZR 0), some (ZI o), some (ZI bits), some (ZI x3_78), some (ZI ((18 * o) + (6 * x3_78))), some (ZI r120), none, none, none] [] 41 σ_78
                    refine zr_iconst (pc := 164) hV 0 dX12_doOrder_164 rfl ?_
                    exact J165 0 (by omega)
                  · show V 137 [some (ZR 0), some (ZI o), some (ZI bits), some (ZI x3_78), some (ZI ((18 * o) + (6 * x3_78))), some (ZI r120), none, none, none] [] 41 σ_78
                    refine zr_aload_n (pc := 137) hV dX12_doOrder_137 rfl rfl ?_
                    refine zr_iload_n (pc := 138) hV dX12_doOrder_138 rfl rfl ?_
                    refine zr_iload_n (pc := 139) hV dX12_doOrder_139 rfl rfl ?_
                    refine zr_aload_n (pc := 140) hV dX12_doOrder_140 rfl rfl ?_
                    refine zr_getR (pc := 141) hV 9 6 dX12_doOrder_141 fX12_35 rfl rfl rfl (by decide) (zx_g9 hσ_78) (by omega) ?_
                    refine zr_iload (pc := 144) hV dX12_doOrder_144 rfl ?_
                    refine zr_iconst (pc := 146) hV 4 dX12_doOrder_146 rfl ?_
                    refine zr_iadd (pc := 147) hV dX12_doOrder_147 ?_
                    refine zr_iald (pc := 148) hV dX12_doOrder_148 rfl (by decide) rfl (by omega) ?_
                    have t81 := zx_ac4 hσ_78 (((18 * o) + (6 * x3_78)) + 4) (by omega)
                    have t82 : σ_78 6 (((18 * o) + (6 * x3_78)) + 4) = σ 6 (((18 * o) + (6 * x3_78)) + 4) := hFσ_78 _ _ (by omega)
                    have za := q2 x3_78 (by omega) (by omega)
                    refine zr_aload_n (pc := 149) hV dX12_doOrder_149 rfl rfl ?_
                    refine zr_getR (pc := 150) hV 9 6 dX12_doOrder_150 fX12_35 rfl rfl rfl (by decide) (zx_g9 hσ_78) (by omega) ?_
                    refine zr_iload (pc := 153) hV dX12_doOrder_153 rfl ?_
                    refine zr_iconst (pc := 155) hV 5 dX12_doOrder_155 rfl ?_
                    refine zr_iadd (pc := 156) hV dX12_doOrder_156 ?_
                    refine zr_iald (pc := 157) hV dX12_doOrder_157 rfl (by decide) rfl (by omega) ?_
                    have t83 := zx_ac hσ_78 (((18 * o) + (6 * x3_78)) + 5)
                    have t84 : σ_78 6 (((18 * o) + (6 * x3_78)) + 5) = σ 6 (((18 * o) + (6 * x3_78)) + 5) := hFσ_78 _ _ (by omega)
                    refine zr_callVp (pc := 158) hV [ZI o, ZI bits, ZI (σ_78 6 (((18 * o) + (6 * x3_78)) + 4)), ZI (σ_78 6 (((18 * o) + (6 * x3_78)) + 5))] (st := []) (c_X12_valueOf (σ := σ_78) hσ_78 o bits (σ_78 6 (((18 * o) + (6 * x3_78)) + 4)) (σ_78 6 (((18 * o) + (6 * x3_78)) + 5)) (by omega) (by omega) (by omega) (by omega) (zx_B_fr (fun i => hFσ_78 2 i (by omega)) (hFσ_78 0 2 (by omega)) q3)) dX12_doOrder_158 mX12_355 rfl (by decide) (by decide) (Nat.le_of_ble_eq_true rfl) (Nat.le_refl _) (fun r158 hr158 pr158 => ?_)
                    refine zr_goto (pc := 161) hV 165 dX12_doOrder_161 (by decide) ?_
                    exact J165 r158 (by omega)
            exact L78 (3 - (0 : Int) + 1 : Int).toNat 0 σ (by omega) hσ (fun a i _ => rfl) (by omega)
          · exfalso; omega
    refine zr_icmp_ne (pc := 16) hV 30 dX12_doOrder_16 (by decide) (by omega) ⟨by decide, by decide⟩ (fun c85 => ?_) (fun c85 => ?_)
    · show V 30 [some (ZR 0), some (ZI o), some (ZI bits), none, none, none, none, none, none] [] 41 σ
      refine zr_aload_n (pc := 30) hV dX12_doOrder_30 rfl rfl ?_
      refine zr_getR (pc := 31) hV 24 15 dX12_doOrder_31 fX12_62 rfl rfl rfl (by decide) (zx_g24 hσ) (by omega) ?_
      refine zr_aload_n (pc := 34) hV dX12_doOrder_34 rfl rfl ?_
      refine zr_iload_n (pc := 35) hV dX12_doOrder_35 rfl rfl ?_
      refine zr_iload_n (pc := 36) hV dX12_doOrder_36 rfl rfl ?_
      refine zr_aload_n (pc := 37) hV dX12_doOrder_37 rfl rfl ?_
      refine zr_getR (pc := 38) hV 7 4 dX12_doOrder_38 fX12_29 rfl rfl rfl (by decide) (zx_g7 hσ) (by omega) ?_
      refine zr_iload_n (pc := 41) hV dX12_doOrder_41 rfl rfl ?_
      refine zr_iald (pc := 42) hV dX12_doOrder_42 rfl (by decide) rfl (by omega) ?_
      have t86 := zx_ga4 hσ o
      refine zr_callVp (pc := 43) hV [ZI o, ZI bits, ZI (σ 4 o)] (st := [ZR 15]) (c_X12_fieldOf (σ := σ) hσ o bits (σ 4 o) (by omega) (by omega) (by omega) q3) dX12_doOrder_43 mX12_289 rfl (by decide) (by decide) (Nat.le_of_ble_eq_true rfl) (Nat.le_refl _) (fun r43 hr43 pr43 => ?_)
      refine zr_iald (pc := 46) hV dX12_doOrder_46 rfl (by decide) rfl (by omega) ?_
      have t87 := zx_stW hσ r43 (by omega)
      exact J47 (σ 15 r43) (by omega)
    · show V 19 [some (ZR 0), some (ZI o), some (ZI bits), none, none, none, none, none, none] [] 41 σ
      refine zr_aload_n (pc := 19) hV dX12_doOrder_19 rfl rfl ?_
      refine zr_getR (pc := 20) hV 24 15 dX12_doOrder_20 fX12_62 rfl rfl rfl (by decide) (zx_g24 hσ) (by omega) ?_
      refine zr_sipush (pc := 23) hV 264 dX12_doOrder_23 (by decide) ?_
      refine zr_iald (pc := 26) hV dX12_doOrder_26 rfl (by decide) rfl (by omega) ?_
      have t88 := zx_stZ hσ
      refine zr_goto (pc := 27) hV 47 dX12_doOrder_27 (by decide) ?_
      exact J47 (σ 15 264) (by omega)
set_option maxHeartbeats 800000 in
theorem c_X12_targetsOf {σ : zq_S} (hσ : zx_T σ) (o bits : Int) (q0 : 0 ≤ o ∧ o ≤ 20) (q1 : zq_in bits) (q2 : zx_B σ o) : zq_C zx_w yX12_targetsOf cX12_targetsOf 6 (some .int) 1 25 41 41 [ZR 0, ZI o, ZI bits] σ (zq_pp σ (fun r => True)) := by
  refine zq_C_of (by decide) (Nat.le_refl _) (Nat.le_of_ble_eq_true rfl) [some (ZR 0), some (ZI o), some (ZI bits), none, none, none] rfl (fun V hV => ?_)
  show V 0 [some (ZR 0), some (ZI o), some (ZI bits), none, none, none] [] 41 σ
  refine zr_iconst (pc := 0) hV 0 dX12_targetsOf_0 rfl ?_
  refine zr_istore_n (pc := 1) hV [some (ZR 0), some (ZI o), some (ZI bits), some (ZI 0), none, none] dX12_targetsOf_1 rfl (by decide) rfl rfl ?_
  refine zr_iconst (pc := 2) hV 0 dX12_targetsOf_2 rfl ?_
  refine zr_istore (pc := 3) hV [some (ZR 0), some (ZI o), some (ZI bits), some (ZI 0), some (ZI 0), none] dX12_targetsOf_3 (by decide) rfl rfl ?_
  have L5 : ∀ (fuel : Nat) (x3_5 : Int) (x4_5 : Int), ((-2147483648) ≤ x3_5 ∧ x3_5 ≤ 2147483647) → (0 ≤ x4_5 ∧ x4_5 ≤ 3) → 3 - x4_5 < (fuel : Int) → V 5 [some (ZR 0), some (ZI o), some (ZI bits), some (ZI x3_5), some (ZI x4_5), none] [] 41 σ := by
    intro fuel
    induction fuel with
    | zero =>
      intro x3_5 x4_5 hx3_5 hx4_5 hm5
      exfalso; omega
    | succ fuel ih =>
      intro x3_5 x4_5 hx3_5 hx4_5 hm5
      have ih5 := ih
      show V 5 [some (ZR 0), some (ZI o), some (ZI bits), some (ZI x3_5), some (ZI x4_5), none] [] 41 σ
      refine zr_iload (pc := 5) hV dX12_targetsOf_5 rfl ?_
      refine zr_aload_n (pc := 7) hV dX12_targetsOf_7 rfl rfl ?_
      refine zr_getR (pc := 8) hV 8 5 dX12_targetsOf_8 fX12_32 rfl rfl rfl (by decide) (zx_g8 hσ) (by omega) ?_
      refine zr_iload_n (pc := 11) hV dX12_targetsOf_11 rfl rfl ?_
      refine zr_iald (pc := 12) hV dX12_targetsOf_12 rfl (by decide) rfl (by omega) ?_
      have t1 := zx_ga5 hσ o
      refine zr_icmp_ge (pc := 13) hV 87 dX12_targetsOf_13 (by decide) (by omega) (by omega) (fun c2 => ?_) (fun c2 => ?_)
      · show V 87 [some (ZR 0), some (ZI o), some (ZI bits), some (ZI x3_5), some (ZI x4_5), none] [] 41 σ
        refine zr_iload_n (pc := 87) hV dX12_targetsOf_87 rfl rfl ?_
        exact zr_iret (pc := 88) hV dX12_targetsOf_88 rfl rfl ⟨rfl, _, rfl, (by omega), trivial⟩
      · show V 16 [some (ZR 0), some (ZI o), some (ZI bits), some (ZI x3_5), some (ZI x4_5), none] [] 41 σ
        refine zr_aload_n (pc := 16) hV dX12_targetsOf_16 rfl rfl ?_
        refine zr_getR (pc := 17) hV 9 6 dX12_targetsOf_17 fX12_35 rfl rfl rfl (by decide) (zx_g9 hσ) (by omega) ?_
        refine zr_bipush (pc := 20) hV 18 dX12_targetsOf_20 (by decide) ?_
        refine zr_iload_n (pc := 22) hV dX12_targetsOf_22 rfl rfl ?_
        refine zr_imul (pc := 23) hV dX12_targetsOf_23 ?_
        refine zr_bipush (pc := 24) hV 6 dX12_targetsOf_24 (by decide) ?_
        refine zr_iload (pc := 26) hV dX12_targetsOf_26 rfl ?_
        refine zr_imul (pc := 28) hV dX12_targetsOf_28 ?_
        refine zr_iadd (pc := 29) hV dX12_targetsOf_29 ?_
        refine zr_iald (pc := 30) hV dX12_targetsOf_30 rfl (by decide) rfl (by omega) ?_
        have t3 := zx_ac0 hσ ((18 * o) + (6 * x4_5)) (by omega)
        refine zr_istore (pc := 31) hV [some (ZR 0), some (ZI o), some (ZI bits), some (ZI x3_5), some (ZI x4_5), some (ZI (σ 6 ((18 * o) + (6 * x4_5))))] dX12_targetsOf_31 (by decide) rfl rfl ?_
        refine zr_iload_n (pc := 33) hV dX12_targetsOf_33 rfl rfl ?_
        refine zr_iload (pc := 34) hV dX12_targetsOf_34 rfl ?_
        refine zr_iconst (pc := 36) hV 3 dX12_targetsOf_36 rfl ?_
        refine zr_icmp_ge (pc := 37) hV 53 dX12_targetsOf_37 (by decide) (by omega) ⟨by decide, by decide⟩ (fun c4 => ?_) (fun c4 => ?_)
        · show V 53 [some (ZR 0), some (ZI o), some (ZI bits), some (ZI x3_5), some (ZI x4_5), some (ZI (σ 6 ((18 * o) + (6 * x4_5))))] [ZI x3_5] 41 σ
          refine zr_iload (pc := 53) hV dX12_targetsOf_53 rfl ?_
          refine zr_iconst (pc := 55) hV 4 dX12_targetsOf_55 rfl ?_
          refine zr_icmp_ne (pc := 56) hV 65 dX12_targetsOf_56 (by decide) (by omega) ⟨by decide, by decide⟩ (fun c5 => ?_) (fun c5 => ?_)
          · show V 65 [some (ZR 0), some (ZI o), some (ZI bits), some (ZI x3_5), some (ZI x4_5), some (ZI (σ 6 ((18 * o) + (6 * x4_5))))] [ZI x3_5] 41 σ
            refine zr_iload (pc := 65) hV dX12_targetsOf_65 rfl ?_
            refine zr_bipush (pc := 67) hV 6 dX12_targetsOf_67 (by decide) ?_
            refine zr_icmp_lt (pc := 69) hV 78 dX12_targetsOf_69 (by decide) (by omega) ⟨by decide, by decide⟩ (fun c6 => ?_) (fun c6 => ?_)
            · show V 78 [some (ZR 0), some (ZI o), some (ZI bits), some (ZI x3_5), some (ZI x4_5), some (ZI (σ 6 ((18 * o) + (6 * x4_5))))] [ZI x3_5] 41 σ
              refine zr_iconst (pc := 78) hV 0 dX12_targetsOf_78 rfl ?_
              show V 79 [some (ZR 0), some (ZI o), some (ZI bits), some (ZI x3_5), some (ZI x4_5), some (ZI (σ 6 ((18 * o) + (6 * x4_5))))] [ZI 0, ZI x3_5] 41 σ
              refine zr_ior (pc := 79) hV dX12_targetsOf_79 ?_
              have t7 := zq_or_in x3_5 0
              refine zr_istore_n (pc := 80) hV [some (ZR 0), some (ZI o), some (ZI bits), some (ZI (zq_or x3_5 0)), some (ZI x4_5), some (ZI (σ 6 ((18 * o) + (6 * x4_5))))] dX12_targetsOf_80 rfl (by decide) rfl rfl ?_
              refine zr_iinc (pc := 81) hV [some (ZR 0), some (ZI o), some (ZI bits), some (ZI (zq_or x3_5 0)), some (ZI (x4_5 + 1)), some (ZI (σ 6 ((18 * o) + (6 * x4_5))))] (x4_5 + 1) dX12_targetsOf_81 rfl rfl (by decide) rfl rfl ?_
              refine zr_goto (pc := 84) hV 5 dX12_targetsOf_84 (by decide) ?_
              refine zr_sub (pc := 5) hV [some (ZR 0), some (ZI o), some (ZI bits), some (ZI (zq_or x3_5 0)), some (ZI (x4_5 + 1)), none] (⟨rfl, rfl, rfl, rfl, rfl, trivial⟩) ?_
              exact ih5 (zq_or x3_5 0) (x4_5 + 1) (by omega) (by omega) (by omega)
            · show V 72 [some (ZR 0), some (ZI o), some (ZI bits), some (ZI x3_5), some (ZI x4_5), some (ZI (σ 6 ((18 * o) + (6 * x4_5))))] [ZI x3_5] 41 σ
              refine zr_sipush (pc := 72) hV 256 dX12_targetsOf_72 (by decide) ?_
              refine zr_goto (pc := 75) hV 79 dX12_targetsOf_75 (by decide) ?_
              show V 79 [some (ZR 0), some (ZI o), some (ZI bits), some (ZI x3_5), some (ZI x4_5), some (ZI (σ 6 ((18 * o) + (6 * x4_5))))] [ZI 256, ZI x3_5] 41 σ
              refine zr_ior (pc := 79) hV dX12_targetsOf_79 ?_
              have t8 := zq_or_in x3_5 256
              refine zr_istore_n (pc := 80) hV [some (ZR 0), some (ZI o), some (ZI bits), some (ZI (zq_or x3_5 256)), some (ZI x4_5), some (ZI (σ 6 ((18 * o) + (6 * x4_5))))] dX12_targetsOf_80 rfl (by decide) rfl rfl ?_
              refine zr_iinc (pc := 81) hV [some (ZR 0), some (ZI o), some (ZI bits), some (ZI (zq_or x3_5 256)), some (ZI (x4_5 + 1)), some (ZI (σ 6 ((18 * o) + (6 * x4_5))))] (x4_5 + 1) dX12_targetsOf_81 rfl rfl (by decide) rfl rfl ?_
              refine zr_goto (pc := 84) hV 5 dX12_targetsOf_84 (by decide) ?_
              refine zr_sub (pc := 5) hV [some (ZR 0), some (ZI o), some (ZI bits), some (ZI (zq_or x3_5 256)), some (ZI (x4_5 + 1)), none] (⟨rfl, rfl, rfl, rfl, rfl, trivial⟩) ?_
              exact ih5 (zq_or x3_5 256) (x4_5 + 1) (by omega) (by omega) (by omega)
          · show V 59 [some (ZR 0), some (ZI o), some (ZI bits), some (ZI x3_5), some (ZI x4_5), some (ZI (σ 6 ((18 * o) + (6 * x4_5))))] [ZI x3_5] 41 σ
            refine zr_sipush (pc := 59) hV 512 dX12_targetsOf_59 (by decide) ?_
            refine zr_goto (pc := 62) hV 79 dX12_targetsOf_62 (by decide) ?_
            show V 79 [some (ZR 0), some (ZI o), some (ZI bits), some (ZI x3_5), some (ZI x4_5), some (ZI (σ 6 ((18 * o) + (6 * x4_5))))] [ZI 512, ZI x3_5] 41 σ
            refine zr_ior (pc := 79) hV dX12_targetsOf_79 ?_
            have t9 := zq_or_in x3_5 512
            refine zr_istore_n (pc := 80) hV [some (ZR 0), some (ZI o), some (ZI bits), some (ZI (zq_or x3_5 512)), some (ZI x4_5), some (ZI (σ 6 ((18 * o) + (6 * x4_5))))] dX12_targetsOf_80 rfl (by decide) rfl rfl ?_
            refine zr_iinc (pc := 81) hV [some (ZR 0), some (ZI o), some (ZI bits), some (ZI (zq_or x3_5 512)), some (ZI (x4_5 + 1)), some (ZI (σ 6 ((18 * o) + (6 * x4_5))))] (x4_5 + 1) dX12_targetsOf_81 rfl rfl (by decide) rfl rfl ?_
            refine zr_goto (pc := 84) hV 5 dX12_targetsOf_84 (by decide) ?_
            refine zr_sub (pc := 5) hV [some (ZR 0), some (ZI o), some (ZI bits), some (ZI (zq_or x3_5 512)), some (ZI (x4_5 + 1)), none] (⟨rfl, rfl, rfl, rfl, rfl, trivial⟩) ?_
            exact ih5 (zq_or x3_5 512) (x4_5 + 1) (by omega) (by omega) (by omega)
        · show V 40 [some (ZR 0), some (ZI o), some (ZI bits), some (ZI x3_5), some (ZI x4_5), some (ZI (σ 6 ((18 * o) + (6 * x4_5))))] [ZI x3_5] 41 σ
          refine zr_iconst (pc := 40) hV 1 dX12_targetsOf_40 rfl ?_
          refine zr_aload_n (pc := 41) hV dX12_targetsOf_41 rfl rfl ?_
          refine zr_iload_n (pc := 42) hV dX12_targetsOf_42 rfl rfl ?_
          refine zr_iload_n (pc := 43) hV dX12_targetsOf_43 rfl rfl ?_
          refine zr_iload (pc := 44) hV dX12_targetsOf_44 rfl ?_
          refine zr_callVp (pc := 46) hV [ZI o, ZI bits, ZI (σ 6 ((18 * o) + (6 * x4_5)))] (st := [ZI 1, ZI x3_5]) (c_X12_fieldOf (σ := σ) hσ o bits (σ 6 ((18 * o) + (6 * x4_5))) (by omega) (by omega) (by omega) q2) dX12_targetsOf_46 mX12_289 rfl (by decide) (by decide) (Nat.le_of_ble_eq_true rfl) (Nat.le_refl _) (fun r46 hr46 pr46 => ?_)
          refine zr_ishl (pc := 49) hV dX12_targetsOf_49 ?_
          have t10 := zq_shl_in 1 r46
          refine zr_goto (pc := 50) hV 79 dX12_targetsOf_50 (by decide) ?_
          show V 79 [some (ZR 0), some (ZI o), some (ZI bits), some (ZI x3_5), some (ZI x4_5), some (ZI (σ 6 ((18 * o) + (6 * x4_5))))] [ZI (zq_shl 1 r46), ZI x3_5] 41 σ
          refine zr_ior (pc := 79) hV dX12_targetsOf_79 ?_
          have t11 := zq_or_in x3_5 (zq_shl 1 r46)
          refine zr_istore_n (pc := 80) hV [some (ZR 0), some (ZI o), some (ZI bits), some (ZI (zq_or x3_5 (zq_shl 1 r46))), some (ZI x4_5), some (ZI (σ 6 ((18 * o) + (6 * x4_5))))] dX12_targetsOf_80 rfl (by decide) rfl rfl ?_
          refine zr_iinc (pc := 81) hV [some (ZR 0), some (ZI o), some (ZI bits), some (ZI (zq_or x3_5 (zq_shl 1 r46))), some (ZI (x4_5 + 1)), some (ZI (σ 6 ((18 * o) + (6 * x4_5))))] (x4_5 + 1) dX12_targetsOf_81 rfl rfl (by decide) rfl rfl ?_
          refine zr_goto (pc := 84) hV 5 dX12_targetsOf_84 (by decide) ?_
          refine zr_sub (pc := 5) hV [some (ZR 0), some (ZI o), some (ZI bits), some (ZI (zq_or x3_5 (zq_shl 1 r46))), some (ZI (x4_5 + 1)), none] (⟨rfl, rfl, rfl, rfl, rfl, trivial⟩) ?_
          exact ih5 (zq_or x3_5 (zq_shl 1 r46)) (x4_5 + 1) (by omega) (by omega) (by omega)
  exact L5 (3 - (0 : Int) + 1 : Int).toNat 0 0 (by omega) (by omega) (by omega)
set_option maxHeartbeats 800000 in
theorem c_X12_inBrackets {σ : zq_S} (hσ : zx_T σ) (o bits what : Int) (q0 : 0 ≤ o ∧ o ≤ 20) (q1 : zq_in bits) (q2 : 0 ≤ what ∧ what ≤ 10) (q3 : zx_B σ o) : zq_C zx_w yX12_inBrackets cX12_inBrackets 4 (some .int) 1 25 41 41 [ZR 0, ZI o, ZI bits, ZI what] σ (zq_pp σ (fun r => True)) := by
  refine zq_C_of (by decide) (Nat.le_refl _) (Nat.le_of_ble_eq_true rfl) [some (ZR 0), some (ZI o), some (ZI bits), some (ZI what)] rfl (fun V hV => ?_)
  show V 0 [some (ZR 0), some (ZI o), some (ZI bits), some (ZI what)] [] 41 σ
  refine zr_iload_n (pc := 0) hV dX12_inBrackets_0 rfl rfl ?_
  refine zr_bipush (pc := 1) hV 6 dX12_inBrackets_1 (by decide) ?_
  refine zr_icmp_lt (pc := 3) hV 27 dX12_inBrackets_3 (by decide) (by omega) ⟨by decide, by decide⟩ (fun c1 => ?_) (fun c1 => ?_)
  · show V 27 [some (ZR 0), some (ZI o), some (ZI bits), some (ZI what)] [] 41 σ
    refine zr_iconst (pc := 27) hV 0 dX12_inBrackets_27 rfl ?_
    show V 28 [some (ZR 0), some (ZI o), some (ZI bits), some (ZI what)] [ZI 0] 41 σ
    exact zr_iret (pc := 28) hV dX12_inBrackets_28 rfl rfl ⟨rfl, _, rfl, ⟨by decide, by decide⟩, trivial⟩
  · show V 6 [some (ZR 0), some (ZI o), some (ZI bits), some (ZI what)] [] 41 σ
    refine zr_iload_n (pc := 6) hV dX12_inBrackets_6 rfl rfl ?_
    refine zr_bipush (pc := 7) hV 9 dX12_inBrackets_7 (by decide) ?_
    refine zr_icmp_ge (pc := 9) hV 27 dX12_inBrackets_9 (by decide) (by omega) ⟨by decide, by decide⟩ (fun c2 => ?_) (fun c2 => ?_)
    · show V 27 [some (ZR 0), some (ZI o), some (ZI bits), some (ZI what)] [] 41 σ
      refine zr_iconst (pc := 27) hV 0 dX12_inBrackets_27 rfl ?_
      show V 28 [some (ZR 0), some (ZI o), some (ZI bits), some (ZI what)] [ZI 0] 41 σ
      exact zr_iret (pc := 28) hV dX12_inBrackets_28 rfl rfl ⟨rfl, _, rfl, ⟨by decide, by decide⟩, trivial⟩
    · show V 12 [some (ZR 0), some (ZI o), some (ZI bits), some (ZI what)] [] 41 σ
      refine zr_iconst (pc := 12) hV 1 dX12_inBrackets_12 rfl ?_
      refine zr_aload_n (pc := 13) hV dX12_inBrackets_13 rfl rfl ?_
      refine zr_iload_n (pc := 14) hV dX12_inBrackets_14 rfl rfl ?_
      refine zr_iload_n (pc := 15) hV dX12_inBrackets_15 rfl rfl ?_
      refine zr_iload_n (pc := 16) hV dX12_inBrackets_16 rfl rfl ?_
      refine zr_bipush (pc := 17) hV 6 dX12_inBrackets_17 (by decide) ?_
      refine zr_isub (pc := 19) hV dX12_inBrackets_19 ?_
      refine zr_callVp (pc := 20) hV [ZI o, ZI bits, ZI (what - 6)] (st := [ZI 1]) (c_X12_fieldOf (σ := σ) hσ o bits (what - 6) (by omega) (by omega) (by omega) q3) dX12_inBrackets_20 mX12_289 rfl (by decide) (by decide) (Nat.le_of_ble_eq_true rfl) (Nat.le_refl _) (fun r20 hr20 pr20 => ?_)
      refine zr_ishl (pc := 23) hV dX12_inBrackets_23 ?_
      have t3 := zq_shl_in 1 r20
      refine zr_goto (pc := 24) hV 28 dX12_inBrackets_24 (by decide) ?_
      show V 28 [some (ZR 0), some (ZI o), some (ZI bits), some (ZI what)] [ZI (zq_shl 1 r20)] 41 σ
      exact zr_iret (pc := 28) hV dX12_inBrackets_28 rfl rfl ⟨rfl, _, rfl, (by omega), trivial⟩
set_option maxHeartbeats 800000 in
theorem c_X12_operandOf {σ : zq_S} (hσ : zx_T σ) (o bits what : Int) (q0 : 0 ≤ o ∧ o ≤ 20) (q1 : zq_in bits) (q2 : 0 ≤ what ∧ what ≤ 10) (q3 : zx_B σ o) : zq_C zx_w yX12_operandOf cX12_operandOf 4 (some .int) 2 48 41 41 [ZR 0, ZI o, ZI bits, ZI what] σ (zq_pp σ (fun r => True)) := by
  refine zq_C_of (by decide) (Nat.le_refl _) (Nat.le_of_ble_eq_true rfl) [some (ZR 0), some (ZI o), some (ZI bits), some (ZI what)] rfl (fun V hV => ?_)
  show V 0 [some (ZR 0), some (ZI o), some (ZI bits), some (ZI what)] [] 41 σ
  refine zr_iload_n (pc := 0) hV dX12_operandOf_0 rfl rfl ?_
  refine zr_iconst (pc := 1) hV 3 dX12_operandOf_1 rfl ?_
  refine zr_icmp_ge (pc := 2) hV 15 dX12_operandOf_2 (by decide) (by omega) ⟨by decide, by decide⟩ (fun c1 => ?_) (fun c1 => ?_)
  · show V 15 [some (ZR 0), some (ZI o), some (ZI bits), some (ZI what)] [] 41 σ
    refine zr_iload_n (pc := 15) hV dX12_operandOf_15 rfl rfl ?_
    refine zr_iconst (pc := 16) hV 4 dX12_operandOf_16 rfl ?_
    refine zr_icmp_ne (pc := 17) hV 24 dX12_operandOf_17 (by decide) (by omega) ⟨by decide, by decide⟩ (fun c2 => ?_) (fun c2 => ?_)
    · show V 24 [some (ZR 0), some (ZI o), some (ZI bits), some (ZI what)] [] 41 σ
      refine zr_iload_n (pc := 24) hV dX12_operandOf_24 rfl rfl ?_
      refine zr_bipush (pc := 25) hV 6 dX12_operandOf_25 (by decide) ?_
      refine zr_icmp_lt (pc := 27) hV 50 dX12_operandOf_27 (by decide) (by omega) ⟨by decide, by decide⟩ (fun c3 => ?_) (fun c3 => ?_)
      · show V 50 [some (ZR 0), some (ZI o), some (ZI bits), some (ZI what)] [] 41 σ
        refine zr_iconst (pc := 50) hV 0 dX12_operandOf_50 rfl ?_
        show V 51 [some (ZR 0), some (ZI o), some (ZI bits), some (ZI what)] [ZI 0] 41 σ
        exact zr_iret (pc := 51) hV dX12_operandOf_51 rfl rfl ⟨rfl, _, rfl, ⟨by decide, by decide⟩, trivial⟩
      · show V 30 [some (ZR 0), some (ZI o), some (ZI bits), some (ZI what)] [] 41 σ
        refine zr_iload_n (pc := 30) hV dX12_operandOf_30 rfl rfl ?_
        refine zr_bipush (pc := 31) hV 10 dX12_operandOf_31 (by decide) ?_
        refine zr_icmp_ge (pc := 33) hV 50 dX12_operandOf_33 (by decide) (by omega) ⟨by decide, by decide⟩ (fun c4 => ?_) (fun c4 => ?_)
        · show V 50 [some (ZR 0), some (ZI o), some (ZI bits), some (ZI what)] [] 41 σ
          refine zr_iconst (pc := 50) hV 0 dX12_operandOf_50 rfl ?_
          show V 51 [some (ZR 0), some (ZI o), some (ZI bits), some (ZI what)] [ZI 0] 41 σ
          exact zr_iret (pc := 51) hV dX12_operandOf_51 rfl rfl ⟨rfl, _, rfl, ⟨by decide, by decide⟩, trivial⟩
        · show V 36 [some (ZR 0), some (ZI o), some (ZI bits), some (ZI what)] [] 41 σ
          refine zr_sipush (pc := 36) hV 256 dX12_operandOf_36 (by decide) ?_
          refine zr_aload_n (pc := 39) hV dX12_operandOf_39 rfl rfl ?_
          refine zr_iload_n (pc := 40) hV dX12_operandOf_40 rfl rfl ?_
          refine zr_iload_n (pc := 41) hV dX12_operandOf_41 rfl rfl ?_
          refine zr_iload_n (pc := 42) hV dX12_operandOf_42 rfl rfl ?_
          refine zr_callVp (pc := 43) hV [ZI o, ZI bits, ZI what] (st := [ZI 256]) (c_X12_inBrackets (σ := σ) hσ o bits what (by omega) (by omega) (by omega) q3) dX12_operandOf_43 mX12_359 rfl (by decide) (by decide) (Nat.le_of_ble_eq_true rfl) (Nat.le_refl _) (fun r43 hr43 pr43 => ?_)
          refine zr_ior (pc := 46) hV dX12_operandOf_46 ?_
          have t5 := zq_or_in 256 r43
          refine zr_goto (pc := 47) hV 51 dX12_operandOf_47 (by decide) ?_
          show V 51 [some (ZR 0), some (ZI o), some (ZI bits), some (ZI what)] [ZI (zq_or 256 r43)] 41 σ
          exact zr_iret (pc := 51) hV dX12_operandOf_51 rfl rfl ⟨rfl, _, rfl, (by omega), trivial⟩
    · show V 20 [some (ZR 0), some (ZI o), some (ZI bits), some (ZI what)] [] 41 σ
      refine zr_sipush (pc := 20) hV 512 dX12_operandOf_20 (by decide) ?_
      exact zr_iret (pc := 23) hV dX12_operandOf_23 rfl rfl ⟨rfl, _, rfl, ⟨by decide, by decide⟩, trivial⟩
  · show V 5 [some (ZR 0), some (ZI o), some (ZI bits), some (ZI what)] [] 41 σ
    refine zr_iconst (pc := 5) hV 1 dX12_operandOf_5 rfl ?_
    refine zr_aload_n (pc := 6) hV dX12_operandOf_6 rfl rfl ?_
    refine zr_iload_n (pc := 7) hV dX12_operandOf_7 rfl rfl ?_
    refine zr_iload_n (pc := 8) hV dX12_operandOf_8 rfl rfl ?_
    refine zr_iload_n (pc := 9) hV dX12_operandOf_9 rfl rfl ?_
    refine zr_callVp (pc := 10) hV [ZI o, ZI bits, ZI what] (st := [ZI 1]) (c_X12_fieldOf (σ := σ) hσ o bits what (by omega) (by omega) (by omega) q3) dX12_operandOf_10 mX12_289 rfl (by decide) (by decide) (Nat.le_of_ble_eq_true rfl) (Nat.le_refl _) (fun r10 hr10 pr10 => ?_)
    refine zr_ishl (pc := 13) hV dX12_operandOf_13 ?_
    have t6 := zq_shl_in 1 r10
    exact zr_iret (pc := 14) hV dX12_operandOf_14 rfl rfl ⟨rfl, _, rfl, (by omega), trivial⟩
set_option maxHeartbeats 800000 in
theorem c_X12_usesOf {σ : zq_S} (hσ : zx_T σ) (o bits : Int) (q0 : 0 ≤ o ∧ o ≤ 20) (q1 : zq_in bits) (q2 : zx_A σ o) (q3 : zx_B σ o) : zq_C zx_w yX12_usesOf cX12_usesOf 6 (some .int) 3 71 41 41 [ZR 0, ZI o, ZI bits] σ (zq_pp σ (fun r => True)) := by
  refine zq_C_of (by decide) (Nat.le_refl _) (Nat.le_of_ble_eq_true rfl) [some (ZR 0), some (ZI o), some (ZI bits), none, none, none] rfl (fun V hV => ?_)
  show V 0 [some (ZR 0), some (ZI o), some (ZI bits), none, none, none] [] 41 σ
  refine zr_aload_n (pc := 0) hV dX12_usesOf_0 rfl rfl ?_
  refine zr_getR (pc := 1) hV 6 3 dX12_usesOf_1 fX12_26 rfl rfl rfl (by decide) (zx_g6 hσ) (by omega) ?_
  refine zr_iload_n (pc := 4) hV dX12_usesOf_4 rfl rfl ?_
  refine zr_iald (pc := 5) hV dX12_usesOf_5 rfl (by decide) rfl (by omega) ?_
  have t1 := zx_ga3 hσ o
  refine zr_if_ne (pc := 6) hV 13 dX12_usesOf_6 (by decide) (by omega) (fun c2 => ?_) (fun c2 => ?_)
  · show V 13 [some (ZR 0), some (ZI o), some (ZI bits), none, none, none] [] 41 σ
    refine zr_aload_n (pc := 13) hV dX12_usesOf_13 rfl rfl ?_
    refine zr_getR (pc := 14) hV 7 4 dX12_usesOf_14 fX12_29 rfl rfl rfl (by decide) (zx_g7 hσ) (by omega) ?_
    refine zr_iload_n (pc := 17) hV dX12_usesOf_17 rfl rfl ?_
    refine zr_iald (pc := 18) hV dX12_usesOf_18 rfl (by decide) rfl (by omega) ?_
    have t3 := zx_ga4 hσ o
    refine zr_iconst (pc := 19) hV 4 dX12_usesOf_19 rfl ?_
    refine zr_icmp_ne (pc := 20) hV 29 dX12_usesOf_20 (by decide) (by omega) ⟨by decide, by decide⟩ (fun c4 => ?_) (fun c4 => ?_)
    · show V 29 [some (ZR 0), some (ZI o), some (ZI bits), none, none, none] [] 41 σ
      refine zr_iconst (pc := 29) hV 1 dX12_usesOf_29 rfl ?_
      refine zr_aload_n (pc := 30) hV dX12_usesOf_30 rfl rfl ?_
      refine zr_iload_n (pc := 31) hV dX12_usesOf_31 rfl rfl ?_
      refine zr_iload_n (pc := 32) hV dX12_usesOf_32 rfl rfl ?_
      refine zr_aload_n (pc := 33) hV dX12_usesOf_33 rfl rfl ?_
      refine zr_getR (pc := 34) hV 7 4 dX12_usesOf_34 fX12_29 rfl rfl rfl (by decide) (zx_g7 hσ) (by omega) ?_
      refine zr_iload_n (pc := 37) hV dX12_usesOf_37 rfl rfl ?_
      refine zr_iald (pc := 38) hV dX12_usesOf_38 rfl (by decide) rfl (by omega) ?_
      have t5 := zx_ga4 hσ o
      refine zr_callVp (pc := 39) hV [ZI o, ZI bits, ZI (σ 4 o)] (st := [ZI 1]) (c_X12_fieldOf (σ := σ) hσ o bits (σ 4 o) (by omega) (by omega) (by omega) q3) dX12_usesOf_39 mX12_289 rfl (by decide) (by decide) (Nat.le_of_ble_eq_true rfl) (Nat.le_refl _) (fun r39 hr39 pr39 => ?_)
      refine zr_ishl (pc := 42) hV dX12_usesOf_42 ?_
      have t6 := zq_shl_in 1 r39
      show V 43 [some (ZR 0), some (ZI o), some (ZI bits), none, none, none] [ZI (zq_shl 1 r39)] 41 σ
      refine zr_istore_n (pc := 43) hV [some (ZR 0), some (ZI o), some (ZI bits), some (ZI (zq_shl 1 r39)), none, none] dX12_usesOf_43 rfl (by decide) rfl rfl ?_
      refine zr_iconst (pc := 44) hV 0 dX12_usesOf_44 rfl ?_
      refine zr_istore (pc := 45) hV [some (ZR 0), some (ZI o), some (ZI bits), some (ZI (zq_shl 1 r39)), some (ZI 0), none] dX12_usesOf_45 (by decide) rfl rfl ?_
      have L47 : ∀ (fuel : Nat) (x3_47 : Int) (x4_47 : Int), ((-2147483648) ≤ x3_47 ∧ x3_47 ≤ 2147483647) → (0 ≤ x4_47 ∧ x4_47 ≤ 3) → 3 - x4_47 < (fuel : Int) → V 47 [some (ZR 0), some (ZI o), some (ZI bits), some (ZI x3_47), some (ZI x4_47), none] [] 41 σ := by
        intro fuel
        induction fuel with
        | zero =>
          intro x3_47 x4_47 hx3_47 hx4_47 hm47
          exfalso; omega
        | succ fuel ih =>
          intro x3_47 x4_47 hx3_47 hx4_47 hm47
          have ih47 := ih
          show V 47 [some (ZR 0), some (ZI o), some (ZI bits), some (ZI x3_47), some (ZI x4_47), none] [] 41 σ
          refine zr_iload (pc := 47) hV dX12_usesOf_47 rfl ?_
          refine zr_aload_n (pc := 49) hV dX12_usesOf_49 rfl rfl ?_
          refine zr_getR (pc := 50) hV 8 5 dX12_usesOf_50 fX12_32 rfl rfl rfl (by decide) (zx_g8 hσ) (by omega) ?_
          refine zr_iload_n (pc := 53) hV dX12_usesOf_53 rfl rfl ?_
          refine zr_iald (pc := 54) hV dX12_usesOf_54 rfl (by decide) rfl (by omega) ?_
          have t7 := zx_ga5 hσ o
          refine zr_icmp_ge (pc := 55) hV 142 dX12_usesOf_55 (by decide) (by omega) (by omega) (fun c8 => ?_) (fun c8 => ?_)
          · show V 142 [some (ZR 0), some (ZI o), some (ZI bits), some (ZI x3_47), some (ZI x4_47), none] [] 41 σ
            refine zr_iload_n (pc := 142) hV dX12_usesOf_142 rfl rfl ?_
            exact zr_iret (pc := 143) hV dX12_usesOf_143 rfl rfl ⟨rfl, _, rfl, (by omega), trivial⟩
          · show V 58 [some (ZR 0), some (ZI o), some (ZI bits), some (ZI x3_47), some (ZI x4_47), none] [] 41 σ
            refine zr_bipush (pc := 58) hV 18 dX12_usesOf_58 (by decide) ?_
            refine zr_iload_n (pc := 60) hV dX12_usesOf_60 rfl rfl ?_
            refine zr_imul (pc := 61) hV dX12_usesOf_61 ?_
            refine zr_bipush (pc := 62) hV 6 dX12_usesOf_62 (by decide) ?_
            refine zr_iload (pc := 64) hV dX12_usesOf_64 rfl ?_
            refine zr_imul (pc := 66) hV dX12_usesOf_66 ?_
            refine zr_iadd (pc := 67) hV dX12_usesOf_67 ?_
            refine zr_istore (pc := 68) hV [some (ZR 0), some (ZI o), some (ZI bits), some (ZI x3_47), some (ZI x4_47), some (ZI ((18 * o) + (6 * x4_47)))] dX12_usesOf_68 (by decide) rfl rfl ?_
            refine zr_iload_n (pc := 70) hV dX12_usesOf_70 rfl rfl ?_
            refine zr_aload_n (pc := 71) hV dX12_usesOf_71 rfl rfl ?_
            refine zr_iload_n (pc := 72) hV dX12_usesOf_72 rfl rfl ?_
            refine zr_iload_n (pc := 73) hV dX12_usesOf_73 rfl rfl ?_
            refine zr_aload_n (pc := 74) hV dX12_usesOf_74 rfl rfl ?_
            refine zr_getR (pc := 75) hV 9 6 dX12_usesOf_75 fX12_35 rfl rfl rfl (by decide) (zx_g9 hσ) (by omega) ?_
            refine zr_iload (pc := 78) hV dX12_usesOf_78 rfl ?_
            refine zr_iald (pc := 80) hV dX12_usesOf_80 rfl (by decide) rfl (by omega) ?_
            have t9 := zx_ac0 hσ ((18 * o) + (6 * x4_47)) (by omega)
            refine zr_callVp (pc := 81) hV [ZI o, ZI bits, ZI (σ 6 ((18 * o) + (6 * x4_47)))] (st := [ZI x3_47]) (c_X12_inBrackets (σ := σ) hσ o bits (σ 6 ((18 * o) + (6 * x4_47))) (by omega) (by omega) (by omega) q3) dX12_usesOf_81 mX12_359 rfl (by decide) (by decide) (Nat.le_of_ble_eq_true rfl) (Nat.le_refl _) (fun r81 hr81 pr81 => ?_)
            refine zr_aload_n (pc := 84) hV dX12_usesOf_84 rfl rfl ?_
            refine zr_iload_n (pc := 85) hV dX12_usesOf_85 rfl rfl ?_
            refine zr_iload_n (pc := 86) hV dX12_usesOf_86 rfl rfl ?_
            refine zr_aload_n (pc := 87) hV dX12_usesOf_87 rfl rfl ?_
            refine zr_getR (pc := 88) hV 9 6 dX12_usesOf_88 fX12_35 rfl rfl rfl (by decide) (zx_g9 hσ) (by omega) ?_
            refine zr_iload (pc := 91) hV dX12_usesOf_91 rfl ?_
            refine zr_iconst (pc := 93) hV 1 dX12_usesOf_93 rfl ?_
            refine zr_iadd (pc := 94) hV dX12_usesOf_94 ?_
            refine zr_iald (pc := 95) hV dX12_usesOf_95 rfl (by decide) rfl (by omega) ?_
            have t10 := zx_ac1 hσ (((18 * o) + (6 * x4_47)) + 1) (by omega)
            refine zr_callVp (pc := 96) hV [ZI o, ZI bits, ZI (σ 6 (((18 * o) + (6 * x4_47)) + 1))] (st := [ZI r81, ZI x3_47]) (c_X12_operandOf (σ := σ) hσ o bits (σ 6 (((18 * o) + (6 * x4_47)) + 1)) (by omega) (by omega) (by omega) q3) dX12_usesOf_96 mX12_362 rfl (by decide) (by decide) (Nat.le_of_ble_eq_true rfl) (Nat.le_refl _) (fun r96 hr96 pr96 => ?_)
            refine zr_ior (pc := 99) hV dX12_usesOf_99 ?_
            have t11 := zq_or_in r81 r96
            refine zr_ior (pc := 100) hV dX12_usesOf_100 ?_
            have t12 := zq_or_in x3_47 (zq_or r81 r96)
            refine zr_istore_n (pc := 101) hV [some (ZR 0), some (ZI o), some (ZI bits), some (ZI (zq_or x3_47 (zq_or r81 r96))), some (ZI x4_47), some (ZI ((18 * o) + (6 * x4_47)))] dX12_usesOf_101 rfl (by decide) rfl rfl ?_
            refine zr_iload_n (pc := 102) hV dX12_usesOf_102 rfl rfl ?_
            refine zr_aload_n (pc := 103) hV dX12_usesOf_103 rfl rfl ?_
            refine zr_getR (pc := 104) hV 9 6 dX12_usesOf_104 fX12_35 rfl rfl rfl (by decide) (zx_g9 hσ) (by omega) ?_
            refine zr_iload (pc := 107) hV dX12_usesOf_107 rfl ?_
            refine zr_iconst (pc := 109) hV 3 dX12_usesOf_109 rfl ?_
            refine zr_iadd (pc := 110) hV dX12_usesOf_110 ?_
            refine zr_iald (pc := 111) hV dX12_usesOf_111 rfl (by decide) rfl (by omega) ?_
            have t13 := zx_ac3 hσ (((18 * o) + (6 * x4_47)) + 3) (by omega)
            refine zr_if_le (pc := 112) hV 133 dX12_usesOf_112 (by decide) (by omega) (fun c14 => ?_) (fun c14 => ?_)
            · show V 133 [some (ZR 0), some (ZI o), some (ZI bits), some (ZI (zq_or x3_47 (zq_or r81 r96))), some (ZI x4_47), some (ZI ((18 * o) + (6 * x4_47)))] [ZI (zq_or x3_47 (zq_or r81 r96))] 41 σ
              refine zr_iconst (pc := 133) hV 0 dX12_usesOf_133 rfl ?_
              show V 134 [some (ZR 0), some (ZI o), some (ZI bits), some (ZI (zq_or x3_47 (zq_or r81 r96))), some (ZI x4_47), some (ZI ((18 * o) + (6 * x4_47)))] [ZI 0, ZI (zq_or x3_47 (zq_or r81 r96))] 41 σ
              refine zr_ior (pc := 134) hV dX12_usesOf_134 ?_
              have t15 := zq_or_in (zq_or x3_47 (zq_or r81 r96)) 0
              refine zr_istore_n (pc := 135) hV [some (ZR 0), some (ZI o), some (ZI bits), some (ZI (zq_or (zq_or x3_47 (zq_or r81 r96)) 0)), some (ZI x4_47), some (ZI ((18 * o) + (6 * x4_47)))] dX12_usesOf_135 rfl (by decide) rfl rfl ?_
              refine zr_iinc (pc := 136) hV [some (ZR 0), some (ZI o), some (ZI bits), some (ZI (zq_or (zq_or x3_47 (zq_or r81 r96)) 0)), some (ZI (x4_47 + 1)), some (ZI ((18 * o) + (6 * x4_47)))] (x4_47 + 1) dX12_usesOf_136 rfl rfl (by decide) rfl rfl ?_
              refine zr_goto (pc := 139) hV 47 dX12_usesOf_139 (by decide) ?_
              refine zr_sub (pc := 47) hV [some (ZR 0), some (ZI o), some (ZI bits), some (ZI (zq_or (zq_or x3_47 (zq_or r81 r96)) 0)), some (ZI (x4_47 + 1)), none] (⟨rfl, rfl, rfl, rfl, rfl, trivial⟩) ?_
              exact ih47 (zq_or (zq_or x3_47 (zq_or r81 r96)) 0) (x4_47 + 1) (by omega) (by omega) (by omega)
            · show V 115 [some (ZR 0), some (ZI o), some (ZI bits), some (ZI (zq_or x3_47 (zq_or r81 r96))), some (ZI x4_47), some (ZI ((18 * o) + (6 * x4_47)))] [ZI (zq_or x3_47 (zq_or r81 r96))] 41 σ
              refine zr_aload_n (pc := 115) hV dX12_usesOf_115 rfl rfl ?_
              refine zr_iload_n (pc := 116) hV dX12_usesOf_116 rfl rfl ?_
              refine zr_iload_n (pc := 117) hV dX12_usesOf_117 rfl rfl ?_
              refine zr_aload_n (pc := 118) hV dX12_usesOf_118 rfl rfl ?_
              refine zr_getR (pc := 119) hV 9 6 dX12_usesOf_119 fX12_35 rfl rfl rfl (by decide) (zx_g9 hσ) (by omega) ?_
              refine zr_iload (pc := 122) hV dX12_usesOf_122 rfl ?_
              refine zr_iconst (pc := 124) hV 4 dX12_usesOf_124 rfl ?_
              refine zr_iadd (pc := 125) hV dX12_usesOf_125 ?_
              refine zr_iald (pc := 126) hV dX12_usesOf_126 rfl (by decide) rfl (by omega) ?_
              have t16 := zx_ac4 hσ (((18 * o) + (6 * x4_47)) + 4) (by omega)
              have za := q2 x4_47 (by omega) (by omega)
              refine zr_callVp (pc := 127) hV [ZI o, ZI bits, ZI (σ 6 (((18 * o) + (6 * x4_47)) + 4))] (st := [ZI (zq_or x3_47 (zq_or r81 r96))]) (c_X12_operandOf (σ := σ) hσ o bits (σ 6 (((18 * o) + (6 * x4_47)) + 4)) (by omega) (by omega) (by omega) q3) dX12_usesOf_127 mX12_362 rfl (by decide) (by decide) (Nat.le_of_ble_eq_true rfl) (Nat.le_refl _) (fun r127 hr127 pr127 => ?_)
              refine zr_goto (pc := 130) hV 134 dX12_usesOf_130 (by decide) ?_
              show V 134 [some (ZR 0), some (ZI o), some (ZI bits), some (ZI (zq_or x3_47 (zq_or r81 r96))), some (ZI x4_47), some (ZI ((18 * o) + (6 * x4_47)))] [ZI r127, ZI (zq_or x3_47 (zq_or r81 r96))] 41 σ
              refine zr_ior (pc := 134) hV dX12_usesOf_134 ?_
              have t17 := zq_or_in (zq_or x3_47 (zq_or r81 r96)) r127
              refine zr_istore_n (pc := 135) hV [some (ZR 0), some (ZI o), some (ZI bits), some (ZI (zq_or (zq_or x3_47 (zq_or r81 r96)) r127)), some (ZI x4_47), some (ZI ((18 * o) + (6 * x4_47)))] dX12_usesOf_135 rfl (by decide) rfl rfl ?_
              refine zr_iinc (pc := 136) hV [some (ZR 0), some (ZI o), some (ZI bits), some (ZI (zq_or (zq_or x3_47 (zq_or r81 r96)) r127)), some (ZI (x4_47 + 1)), some (ZI ((18 * o) + (6 * x4_47)))] (x4_47 + 1) dX12_usesOf_136 rfl rfl (by decide) rfl rfl ?_
              refine zr_goto (pc := 139) hV 47 dX12_usesOf_139 (by decide) ?_
              refine zr_sub (pc := 47) hV [some (ZR 0), some (ZI o), some (ZI bits), some (ZI (zq_or (zq_or x3_47 (zq_or r81 r96)) r127)), some (ZI (x4_47 + 1)), none] (⟨rfl, rfl, rfl, rfl, rfl, trivial⟩) ?_
              exact ih47 (zq_or (zq_or x3_47 (zq_or r81 r96)) r127) (x4_47 + 1) (by omega) (by omega) (by omega)
      exact L47 (3 - (0 : Int) + 1 : Int).toNat (zq_shl 1 r39) 0 (by omega) (by omega) (by omega)
    · show V 23 [some (ZR 0), some (ZI o), some (ZI bits), none, none, none] [] 41 σ
      refine zr_sipush (pc := 23) hV 512 dX12_usesOf_23 (by decide) ?_
      refine zr_goto (pc := 26) hV 43 dX12_usesOf_26 (by decide) ?_
      show V 43 [some (ZR 0), some (ZI o), some (ZI bits), none, none, none] [ZI 512] 41 σ
      refine zr_istore_n (pc := 43) hV [some (ZR 0), some (ZI o), some (ZI bits), some (ZI 512), none, none] dX12_usesOf_43 rfl (by decide) rfl rfl ?_
      refine zr_iconst (pc := 44) hV 0 dX12_usesOf_44 rfl ?_
      refine zr_istore (pc := 45) hV [some (ZR 0), some (ZI o), some (ZI bits), some (ZI 512), some (ZI 0), none] dX12_usesOf_45 (by decide) rfl rfl ?_
      have L47 : ∀ (fuel : Nat) (x3_47 : Int) (x4_47 : Int), ((-2147483648) ≤ x3_47 ∧ x3_47 ≤ 2147483647) → (0 ≤ x4_47 ∧ x4_47 ≤ 3) → 3 - x4_47 < (fuel : Int) → V 47 [some (ZR 0), some (ZI o), some (ZI bits), some (ZI x3_47), some (ZI x4_47), none] [] 41 σ := by
        intro fuel
        induction fuel with
        | zero =>
          intro x3_47 x4_47 hx3_47 hx4_47 hm47
          exfalso; omega
        | succ fuel ih =>
          intro x3_47 x4_47 hx3_47 hx4_47 hm47
          have ih47 := ih
          show V 47 [some (ZR 0), some (ZI o), some (ZI bits), some (ZI x3_47), some (ZI x4_47), none] [] 41 σ
          refine zr_iload (pc := 47) hV dX12_usesOf_47 rfl ?_
          refine zr_aload_n (pc := 49) hV dX12_usesOf_49 rfl rfl ?_
          refine zr_getR (pc := 50) hV 8 5 dX12_usesOf_50 fX12_32 rfl rfl rfl (by decide) (zx_g8 hσ) (by omega) ?_
          refine zr_iload_n (pc := 53) hV dX12_usesOf_53 rfl rfl ?_
          refine zr_iald (pc := 54) hV dX12_usesOf_54 rfl (by decide) rfl (by omega) ?_
          have t18 := zx_ga5 hσ o
          refine zr_icmp_ge (pc := 55) hV 142 dX12_usesOf_55 (by decide) (by omega) (by omega) (fun c19 => ?_) (fun c19 => ?_)
          · show V 142 [some (ZR 0), some (ZI o), some (ZI bits), some (ZI x3_47), some (ZI x4_47), none] [] 41 σ
            refine zr_iload_n (pc := 142) hV dX12_usesOf_142 rfl rfl ?_
            exact zr_iret (pc := 143) hV dX12_usesOf_143 rfl rfl ⟨rfl, _, rfl, (by omega), trivial⟩
          · show V 58 [some (ZR 0), some (ZI o), some (ZI bits), some (ZI x3_47), some (ZI x4_47), none] [] 41 σ
            refine zr_bipush (pc := 58) hV 18 dX12_usesOf_58 (by decide) ?_
            refine zr_iload_n (pc := 60) hV dX12_usesOf_60 rfl rfl ?_
            refine zr_imul (pc := 61) hV dX12_usesOf_61 ?_
            refine zr_bipush (pc := 62) hV 6 dX12_usesOf_62 (by decide) ?_
            refine zr_iload (pc := 64) hV dX12_usesOf_64 rfl ?_
            refine zr_imul (pc := 66) hV dX12_usesOf_66 ?_
            refine zr_iadd (pc := 67) hV dX12_usesOf_67 ?_
            refine zr_istore (pc := 68) hV [some (ZR 0), some (ZI o), some (ZI bits), some (ZI x3_47), some (ZI x4_47), some (ZI ((18 * o) + (6 * x4_47)))] dX12_usesOf_68 (by decide) rfl rfl ?_
            refine zr_iload_n (pc := 70) hV dX12_usesOf_70 rfl rfl ?_
            refine zr_aload_n (pc := 71) hV dX12_usesOf_71 rfl rfl ?_
            refine zr_iload_n (pc := 72) hV dX12_usesOf_72 rfl rfl ?_
            refine zr_iload_n (pc := 73) hV dX12_usesOf_73 rfl rfl ?_
            refine zr_aload_n (pc := 74) hV dX12_usesOf_74 rfl rfl ?_
            refine zr_getR (pc := 75) hV 9 6 dX12_usesOf_75 fX12_35 rfl rfl rfl (by decide) (zx_g9 hσ) (by omega) ?_
            refine zr_iload (pc := 78) hV dX12_usesOf_78 rfl ?_
            refine zr_iald (pc := 80) hV dX12_usesOf_80 rfl (by decide) rfl (by omega) ?_
            have t20 := zx_ac0 hσ ((18 * o) + (6 * x4_47)) (by omega)
            refine zr_callVp (pc := 81) hV [ZI o, ZI bits, ZI (σ 6 ((18 * o) + (6 * x4_47)))] (st := [ZI x3_47]) (c_X12_inBrackets (σ := σ) hσ o bits (σ 6 ((18 * o) + (6 * x4_47))) (by omega) (by omega) (by omega) q3) dX12_usesOf_81 mX12_359 rfl (by decide) (by decide) (Nat.le_of_ble_eq_true rfl) (Nat.le_refl _) (fun r81 hr81 pr81 => ?_)
            refine zr_aload_n (pc := 84) hV dX12_usesOf_84 rfl rfl ?_
            refine zr_iload_n (pc := 85) hV dX12_usesOf_85 rfl rfl ?_
            refine zr_iload_n (pc := 86) hV dX12_usesOf_86 rfl rfl ?_
            refine zr_aload_n (pc := 87) hV dX12_usesOf_87 rfl rfl ?_
            refine zr_getR (pc := 88) hV 9 6 dX12_usesOf_88 fX12_35 rfl rfl rfl (by decide) (zx_g9 hσ) (by omega) ?_
            refine zr_iload (pc := 91) hV dX12_usesOf_91 rfl ?_
            refine zr_iconst (pc := 93) hV 1 dX12_usesOf_93 rfl ?_
            refine zr_iadd (pc := 94) hV dX12_usesOf_94 ?_
            refine zr_iald (pc := 95) hV dX12_usesOf_95 rfl (by decide) rfl (by omega) ?_
            have t21 := zx_ac1 hσ (((18 * o) + (6 * x4_47)) + 1) (by omega)
            refine zr_callVp (pc := 96) hV [ZI o, ZI bits, ZI (σ 6 (((18 * o) + (6 * x4_47)) + 1))] (st := [ZI r81, ZI x3_47]) (c_X12_operandOf (σ := σ) hσ o bits (σ 6 (((18 * o) + (6 * x4_47)) + 1)) (by omega) (by omega) (by omega) q3) dX12_usesOf_96 mX12_362 rfl (by decide) (by decide) (Nat.le_of_ble_eq_true rfl) (Nat.le_refl _) (fun r96 hr96 pr96 => ?_)
            refine zr_ior (pc := 99) hV dX12_usesOf_99 ?_
            have t22 := zq_or_in r81 r96
            refine zr_ior (pc := 100) hV dX12_usesOf_100 ?_
            have t23 := zq_or_in x3_47 (zq_or r81 r96)
            refine zr_istore_n (pc := 101) hV [some (ZR 0), some (ZI o), some (ZI bits), some (ZI (zq_or x3_47 (zq_or r81 r96))), some (ZI x4_47), some (ZI ((18 * o) + (6 * x4_47)))] dX12_usesOf_101 rfl (by decide) rfl rfl ?_
            refine zr_iload_n (pc := 102) hV dX12_usesOf_102 rfl rfl ?_
            refine zr_aload_n (pc := 103) hV dX12_usesOf_103 rfl rfl ?_
            refine zr_getR (pc := 104) hV 9 6 dX12_usesOf_104 fX12_35 rfl rfl rfl (by decide) (zx_g9 hσ) (by omega) ?_
            refine zr_iload (pc := 107) hV dX12_usesOf_107 rfl ?_
            refine zr_iconst (pc := 109) hV 3 dX12_usesOf_109 rfl ?_
            refine zr_iadd (pc := 110) hV dX12_usesOf_110 ?_
            refine zr_iald (pc := 111) hV dX12_usesOf_111 rfl (by decide) rfl (by omega) ?_
            have t24 := zx_ac3 hσ (((18 * o) + (6 * x4_47)) + 3) (by omega)
            refine zr_if_le (pc := 112) hV 133 dX12_usesOf_112 (by decide) (by omega) (fun c25 => ?_) (fun c25 => ?_)
            · show V 133 [some (ZR 0), some (ZI o), some (ZI bits), some (ZI (zq_or x3_47 (zq_or r81 r96))), some (ZI x4_47), some (ZI ((18 * o) + (6 * x4_47)))] [ZI (zq_or x3_47 (zq_or r81 r96))] 41 σ
              refine zr_iconst (pc := 133) hV 0 dX12_usesOf_133 rfl ?_
              show V 134 [some (ZR 0), some (ZI o), some (ZI bits), some (ZI (zq_or x3_47 (zq_or r81 r96))), some (ZI x4_47), some (ZI ((18 * o) + (6 * x4_47)))] [ZI 0, ZI (zq_or x3_47 (zq_or r81 r96))] 41 σ
              refine zr_ior (pc := 134) hV dX12_usesOf_134 ?_
              have t26 := zq_or_in (zq_or x3_47 (zq_or r81 r96)) 0
              refine zr_istore_n (pc := 135) hV [some (ZR 0), some (ZI o), some (ZI bits), some (ZI (zq_or (zq_or x3_47 (zq_or r81 r96)) 0)), some (ZI x4_47), some (ZI ((18 * o) + (6 * x4_47)))] dX12_usesOf_135 rfl (by decide) rfl rfl ?_
              refine zr_iinc (pc := 136) hV [some (ZR 0), some (ZI o), some (ZI bits), some (ZI (zq_or (zq_or x3_47 (zq_or r81 r96)) 0)), some (ZI (x4_47 + 1)), some (ZI ((18 * o) + (6 * x4_47)))] (x4_47 + 1) dX12_usesOf_136 rfl rfl (by decide) rfl rfl ?_
              refine zr_goto (pc := 139) hV 47 dX12_usesOf_139 (by decide) ?_
              refine zr_sub (pc := 47) hV [some (ZR 0), some (ZI o), some (ZI bits), some (ZI (zq_or (zq_or x3_47 (zq_or r81 r96)) 0)), some (ZI (x4_47 + 1)), none] (⟨rfl, rfl, rfl, rfl, rfl, trivial⟩) ?_
              exact ih47 (zq_or (zq_or x3_47 (zq_or r81 r96)) 0) (x4_47 + 1) (by omega) (by omega) (by omega)
            · show V 115 [some (ZR 0), some (ZI o), some (ZI bits), some (ZI (zq_or x3_47 (zq_or r81 r96))), some (ZI x4_47), some (ZI ((18 * o) + (6 * x4_47)))] [ZI (zq_or x3_47 (zq_or r81 r96))] 41 σ
              refine zr_aload_n (pc := 115) hV dX12_usesOf_115 rfl rfl ?_
              refine zr_iload_n (pc := 116) hV dX12_usesOf_116 rfl rfl ?_
              refine zr_iload_n (pc := 117) hV dX12_usesOf_117 rfl rfl ?_
              refine zr_aload_n (pc := 118) hV dX12_usesOf_118 rfl rfl ?_
              refine zr_getR (pc := 119) hV 9 6 dX12_usesOf_119 fX12_35 rfl rfl rfl (by decide) (zx_g9 hσ) (by omega) ?_
              refine zr_iload (pc := 122) hV dX12_usesOf_122 rfl ?_
              refine zr_iconst (pc := 124) hV 4 dX12_usesOf_124 rfl ?_
              refine zr_iadd (pc := 125) hV dX12_usesOf_125 ?_
              refine zr_iald (pc := 126) hV dX12_usesOf_126 rfl (by decide) rfl (by omega) ?_
              have t27 := zx_ac4 hσ (((18 * o) + (6 * x4_47)) + 4) (by omega)
              have za := q2 x4_47 (by omega) (by omega)
              refine zr_callVp (pc := 127) hV [ZI o, ZI bits, ZI (σ 6 (((18 * o) + (6 * x4_47)) + 4))] (st := [ZI (zq_or x3_47 (zq_or r81 r96))]) (c_X12_operandOf (σ := σ) hσ o bits (σ 6 (((18 * o) + (6 * x4_47)) + 4)) (by omega) (by omega) (by omega) q3) dX12_usesOf_127 mX12_362 rfl (by decide) (by decide) (Nat.le_of_ble_eq_true rfl) (Nat.le_refl _) (fun r127 hr127 pr127 => ?_)
              refine zr_goto (pc := 130) hV 134 dX12_usesOf_130 (by decide) ?_
              show V 134 [some (ZR 0), some (ZI o), some (ZI bits), some (ZI (zq_or x3_47 (zq_or r81 r96))), some (ZI x4_47), some (ZI ((18 * o) + (6 * x4_47)))] [ZI r127, ZI (zq_or x3_47 (zq_or r81 r96))] 41 σ
              refine zr_ior (pc := 134) hV dX12_usesOf_134 ?_
              have t28 := zq_or_in (zq_or x3_47 (zq_or r81 r96)) r127
              refine zr_istore_n (pc := 135) hV [some (ZR 0), some (ZI o), some (ZI bits), some (ZI (zq_or (zq_or x3_47 (zq_or r81 r96)) r127)), some (ZI x4_47), some (ZI ((18 * o) + (6 * x4_47)))] dX12_usesOf_135 rfl (by decide) rfl rfl ?_
              refine zr_iinc (pc := 136) hV [some (ZR 0), some (ZI o), some (ZI bits), some (ZI (zq_or (zq_or x3_47 (zq_or r81 r96)) r127)), some (ZI (x4_47 + 1)), some (ZI ((18 * o) + (6 * x4_47)))] (x4_47 + 1) dX12_usesOf_136 rfl rfl (by decide) rfl rfl ?_
              refine zr_goto (pc := 139) hV 47 dX12_usesOf_139 (by decide) ?_
              refine zr_sub (pc := 47) hV [some (ZR 0), some (ZI o), some (ZI bits), some (ZI (zq_or (zq_or x3_47 (zq_or r81 r96)) r127)), some (ZI (x4_47 + 1)), none] (⟨rfl, rfl, rfl, rfl, rfl, trivial⟩) ?_
              exact ih47 (zq_or (zq_or x3_47 (zq_or r81 r96)) r127) (x4_47 + 1) (by omega) (by omega) (by omega)
      exact L47 (3 - (0 : Int) + 1 : Int).toNat 512 0 (by omega) (by omega) (by omega)
  · show V 9 [some (ZR 0), some (ZI o), some (ZI bits), none, none, none] [] 41 σ
    refine zr_iconst (pc := 9) hV 0 dX12_usesOf_9 rfl ?_
    refine zr_goto (pc := 10) hV 43 dX12_usesOf_10 (by decide) ?_
    show V 43 [some (ZR 0), some (ZI o), some (ZI bits), none, none, none] [ZI 0] 41 σ
    refine zr_istore_n (pc := 43) hV [some (ZR 0), some (ZI o), some (ZI bits), some (ZI 0), none, none] dX12_usesOf_43 rfl (by decide) rfl rfl ?_
    refine zr_iconst (pc := 44) hV 0 dX12_usesOf_44 rfl ?_
    refine zr_istore (pc := 45) hV [some (ZR 0), some (ZI o), some (ZI bits), some (ZI 0), some (ZI 0), none] dX12_usesOf_45 (by decide) rfl rfl ?_
    have L47 : ∀ (fuel : Nat) (x3_47 : Int) (x4_47 : Int), ((-2147483648) ≤ x3_47 ∧ x3_47 ≤ 2147483647) → (0 ≤ x4_47 ∧ x4_47 ≤ 3) → 3 - x4_47 < (fuel : Int) → V 47 [some (ZR 0), some (ZI o), some (ZI bits), some (ZI x3_47), some (ZI x4_47), none] [] 41 σ := by
      intro fuel
      induction fuel with
      | zero =>
        intro x3_47 x4_47 hx3_47 hx4_47 hm47
        exfalso; omega
      | succ fuel ih =>
        intro x3_47 x4_47 hx3_47 hx4_47 hm47
        have ih47 := ih
        show V 47 [some (ZR 0), some (ZI o), some (ZI bits), some (ZI x3_47), some (ZI x4_47), none] [] 41 σ
        refine zr_iload (pc := 47) hV dX12_usesOf_47 rfl ?_
        refine zr_aload_n (pc := 49) hV dX12_usesOf_49 rfl rfl ?_
        refine zr_getR (pc := 50) hV 8 5 dX12_usesOf_50 fX12_32 rfl rfl rfl (by decide) (zx_g8 hσ) (by omega) ?_
        refine zr_iload_n (pc := 53) hV dX12_usesOf_53 rfl rfl ?_
        refine zr_iald (pc := 54) hV dX12_usesOf_54 rfl (by decide) rfl (by omega) ?_
        have t29 := zx_ga5 hσ o
        refine zr_icmp_ge (pc := 55) hV 142 dX12_usesOf_55 (by decide) (by omega) (by omega) (fun c30 => ?_) (fun c30 => ?_)
        · show V 142 [some (ZR 0), some (ZI o), some (ZI bits), some (ZI x3_47), some (ZI x4_47), none] [] 41 σ
          refine zr_iload_n (pc := 142) hV dX12_usesOf_142 rfl rfl ?_
          exact zr_iret (pc := 143) hV dX12_usesOf_143 rfl rfl ⟨rfl, _, rfl, (by omega), trivial⟩
        · show V 58 [some (ZR 0), some (ZI o), some (ZI bits), some (ZI x3_47), some (ZI x4_47), none] [] 41 σ
          refine zr_bipush (pc := 58) hV 18 dX12_usesOf_58 (by decide) ?_
          refine zr_iload_n (pc := 60) hV dX12_usesOf_60 rfl rfl ?_
          refine zr_imul (pc := 61) hV dX12_usesOf_61 ?_
          refine zr_bipush (pc := 62) hV 6 dX12_usesOf_62 (by decide) ?_
          refine zr_iload (pc := 64) hV dX12_usesOf_64 rfl ?_
          refine zr_imul (pc := 66) hV dX12_usesOf_66 ?_
          refine zr_iadd (pc := 67) hV dX12_usesOf_67 ?_
          refine zr_istore (pc := 68) hV [some (ZR 0), some (ZI o), some (ZI bits), some (ZI x3_47), some (ZI x4_47), some (ZI ((18 * o) + (6 * x4_47)))] dX12_usesOf_68 (by decide) rfl rfl ?_
          refine zr_iload_n (pc := 70) hV dX12_usesOf_70 rfl rfl ?_
          refine zr_aload_n (pc := 71) hV dX12_usesOf_71 rfl rfl ?_
          refine zr_iload_n (pc := 72) hV dX12_usesOf_72 rfl rfl ?_
          refine zr_iload_n (pc := 73) hV dX12_usesOf_73 rfl rfl ?_
          refine zr_aload_n (pc := 74) hV dX12_usesOf_74 rfl rfl ?_
          refine zr_getR (pc := 75) hV 9 6 dX12_usesOf_75 fX12_35 rfl rfl rfl (by decide) (zx_g9 hσ) (by omega) ?_
          refine zr_iload (pc := 78) hV dX12_usesOf_78 rfl ?_
          refine zr_iald (pc := 80) hV dX12_usesOf_80 rfl (by decide) rfl (by omega) ?_
          have t31 := zx_ac0 hσ ((18 * o) + (6 * x4_47)) (by omega)
          refine zr_callVp (pc := 81) hV [ZI o, ZI bits, ZI (σ 6 ((18 * o) + (6 * x4_47)))] (st := [ZI x3_47]) (c_X12_inBrackets (σ := σ) hσ o bits (σ 6 ((18 * o) + (6 * x4_47))) (by omega) (by omega) (by omega) q3) dX12_usesOf_81 mX12_359 rfl (by decide) (by decide) (Nat.le_of_ble_eq_true rfl) (Nat.le_refl _) (fun r81 hr81 pr81 => ?_)
          refine zr_aload_n (pc := 84) hV dX12_usesOf_84 rfl rfl ?_
          refine zr_iload_n (pc := 85) hV dX12_usesOf_85 rfl rfl ?_
          refine zr_iload_n (pc := 86) hV dX12_usesOf_86 rfl rfl ?_
          refine zr_aload_n (pc := 87) hV dX12_usesOf_87 rfl rfl ?_
          refine zr_getR (pc := 88) hV 9 6 dX12_usesOf_88 fX12_35 rfl rfl rfl (by decide) (zx_g9 hσ) (by omega) ?_
          refine zr_iload (pc := 91) hV dX12_usesOf_91 rfl ?_
          refine zr_iconst (pc := 93) hV 1 dX12_usesOf_93 rfl ?_
          refine zr_iadd (pc := 94) hV dX12_usesOf_94 ?_
          refine zr_iald (pc := 95) hV dX12_usesOf_95 rfl (by decide) rfl (by omega) ?_
          have t32 := zx_ac1 hσ (((18 * o) + (6 * x4_47)) + 1) (by omega)
          refine zr_callVp (pc := 96) hV [ZI o, ZI bits, ZI (σ 6 (((18 * o) + (6 * x4_47)) + 1))] (st := [ZI r81, ZI x3_47]) (c_X12_operandOf (σ := σ) hσ o bits (σ 6 (((18 * o) + (6 * x4_47)) + 1)) (by omega) (by omega) (by omega) q3) dX12_usesOf_96 mX12_362 rfl (by decide) (by decide) (Nat.le_of_ble_eq_true rfl) (Nat.le_refl _) (fun r96 hr96 pr96 => ?_)
          refine zr_ior (pc := 99) hV dX12_usesOf_99 ?_
          have t33 := zq_or_in r81 r96
          refine zr_ior (pc := 100) hV dX12_usesOf_100 ?_
          have t34 := zq_or_in x3_47 (zq_or r81 r96)
          refine zr_istore_n (pc := 101) hV [some (ZR 0), some (ZI o), some (ZI bits), some (ZI (zq_or x3_47 (zq_or r81 r96))), some (ZI x4_47), some (ZI ((18 * o) + (6 * x4_47)))] dX12_usesOf_101 rfl (by decide) rfl rfl ?_
          refine zr_iload_n (pc := 102) hV dX12_usesOf_102 rfl rfl ?_
          refine zr_aload_n (pc := 103) hV dX12_usesOf_103 rfl rfl ?_
          refine zr_getR (pc := 104) hV 9 6 dX12_usesOf_104 fX12_35 rfl rfl rfl (by decide) (zx_g9 hσ) (by omega) ?_
          refine zr_iload (pc := 107) hV dX12_usesOf_107 rfl ?_
          refine zr_iconst (pc := 109) hV 3 dX12_usesOf_109 rfl ?_
          refine zr_iadd (pc := 110) hV dX12_usesOf_110 ?_
          refine zr_iald (pc := 111) hV dX12_usesOf_111 rfl (by decide) rfl (by omega) ?_
          have t35 := zx_ac3 hσ (((18 * o) + (6 * x4_47)) + 3) (by omega)
          refine zr_if_le (pc := 112) hV 133 dX12_usesOf_112 (by decide) (by omega) (fun c36 => ?_) (fun c36 => ?_)
          · show V 133 [some (ZR 0), some (ZI o), some (ZI bits), some (ZI (zq_or x3_47 (zq_or r81 r96))), some (ZI x4_47), some (ZI ((18 * o) + (6 * x4_47)))] [ZI (zq_or x3_47 (zq_or r81 r96))] 41 σ
            refine zr_iconst (pc := 133) hV 0 dX12_usesOf_133 rfl ?_
            show V 134 [some (ZR 0), some (ZI o), some (ZI bits), some (ZI (zq_or x3_47 (zq_or r81 r96))), some (ZI x4_47), some (ZI ((18 * o) + (6 * x4_47)))] [ZI 0, ZI (zq_or x3_47 (zq_or r81 r96))] 41 σ
            refine zr_ior (pc := 134) hV dX12_usesOf_134 ?_
            have t37 := zq_or_in (zq_or x3_47 (zq_or r81 r96)) 0
            refine zr_istore_n (pc := 135) hV [some (ZR 0), some (ZI o), some (ZI bits), some (ZI (zq_or (zq_or x3_47 (zq_or r81 r96)) 0)), some (ZI x4_47), some (ZI ((18 * o) + (6 * x4_47)))] dX12_usesOf_135 rfl (by decide) rfl rfl ?_
            refine zr_iinc (pc := 136) hV [some (ZR 0), some (ZI o), some (ZI bits), some (ZI (zq_or (zq_or x3_47 (zq_or r81 r96)) 0)), some (ZI (x4_47 + 1)), some (ZI ((18 * o) + (6 * x4_47)))] (x4_47 + 1) dX12_usesOf_136 rfl rfl (by decide) rfl rfl ?_
            refine zr_goto (pc := 139) hV 47 dX12_usesOf_139 (by decide) ?_
            refine zr_sub (pc := 47) hV [some (ZR 0), some (ZI o), some (ZI bits), some (ZI (zq_or (zq_or x3_47 (zq_or r81 r96)) 0)), some (ZI (x4_47 + 1)), none] (⟨rfl, rfl, rfl, rfl, rfl, trivial⟩) ?_
            exact ih47 (zq_or (zq_or x3_47 (zq_or r81 r96)) 0) (x4_47 + 1) (by omega) (by omega) (by omega)
          · show V 115 [some (ZR 0), some (ZI o), some (ZI bits), some (ZI (zq_or x3_47 (zq_or r81 r96))), some (ZI x4_47), some (ZI ((18 * o) + (6 * x4_47)))] [ZI (zq_or x3_47 (zq_or r81 r96))] 41 σ
            refine zr_aload_n (pc := 115) hV dX12_usesOf_115 rfl rfl ?_
            refine zr_iload_n (pc := 116) hV dX12_usesOf_116 rfl rfl ?_
            refine zr_iload_n (pc := 117) hV dX12_usesOf_117 rfl rfl ?_
            refine zr_aload_n (pc := 118) hV dX12_usesOf_118 rfl rfl ?_
            refine zr_getR (pc := 119) hV 9 6 dX12_usesOf_119 fX12_35 rfl rfl rfl (by decide) (zx_g9 hσ) (by omega) ?_
            refine zr_iload (pc := 122) hV dX12_usesOf_122 rfl ?_
            refine zr_iconst (pc := 124) hV 4 dX12_usesOf_124 rfl ?_
            refine zr_iadd (pc := 125) hV dX12_usesOf_125 ?_
            refine zr_iald (pc := 126) hV dX12_usesOf_126 rfl (by decide) rfl (by omega) ?_
            have t38 := zx_ac4 hσ (((18 * o) + (6 * x4_47)) + 4) (by omega)
            have za := q2 x4_47 (by omega) (by omega)
            refine zr_callVp (pc := 127) hV [ZI o, ZI bits, ZI (σ 6 (((18 * o) + (6 * x4_47)) + 4))] (st := [ZI (zq_or x3_47 (zq_or r81 r96))]) (c_X12_operandOf (σ := σ) hσ o bits (σ 6 (((18 * o) + (6 * x4_47)) + 4)) (by omega) (by omega) (by omega) q3) dX12_usesOf_127 mX12_362 rfl (by decide) (by decide) (Nat.le_of_ble_eq_true rfl) (Nat.le_refl _) (fun r127 hr127 pr127 => ?_)
            refine zr_goto (pc := 130) hV 134 dX12_usesOf_130 (by decide) ?_
            show V 134 [some (ZR 0), some (ZI o), some (ZI bits), some (ZI (zq_or x3_47 (zq_or r81 r96))), some (ZI x4_47), some (ZI ((18 * o) + (6 * x4_47)))] [ZI r127, ZI (zq_or x3_47 (zq_or r81 r96))] 41 σ
            refine zr_ior (pc := 134) hV dX12_usesOf_134 ?_
            have t39 := zq_or_in (zq_or x3_47 (zq_or r81 r96)) r127
            refine zr_istore_n (pc := 135) hV [some (ZR 0), some (ZI o), some (ZI bits), some (ZI (zq_or (zq_or x3_47 (zq_or r81 r96)) r127)), some (ZI x4_47), some (ZI ((18 * o) + (6 * x4_47)))] dX12_usesOf_135 rfl (by decide) rfl rfl ?_
            refine zr_iinc (pc := 136) hV [some (ZR 0), some (ZI o), some (ZI bits), some (ZI (zq_or (zq_or x3_47 (zq_or r81 r96)) r127)), some (ZI (x4_47 + 1)), some (ZI ((18 * o) + (6 * x4_47)))] (x4_47 + 1) dX12_usesOf_136 rfl rfl (by decide) rfl rfl ?_
            refine zr_goto (pc := 139) hV 47 dX12_usesOf_139 (by decide) ?_
            refine zr_sub (pc := 47) hV [some (ZR 0), some (ZI o), some (ZI bits), some (ZI (zq_or (zq_or x3_47 (zq_or r81 r96)) r127)), some (ZI (x4_47 + 1)), none] (⟨rfl, rfl, rfl, rfl, rfl, trivial⟩) ?_
            exact ih47 (zq_or (zq_or x3_47 (zq_or r81 r96)) r127) (x4_47 + 1) (by omega) (by omega) (by omega)
    exact L47 (3 - (0 : Int) + 1 : Int).toNat 0 0 (by omega) (by omega) (by omega)
