set_option maxHeartbeats 800000 in
theorem c_X12_addressOf {σ : zq_S} (hσ : zx_T σ) (o bits what : Int) (q0 : 0 ≤ o ∧ o ≤ 20) (q1 : zq_in bits) (q2 : 6 ≤ what ∧ what ≤ 9) (q3 : zx_B σ o) : zq_C zx_w yX12_addressOf cX12_addressOf 5 (some .int) 1 25 41 41 [ZR 0, ZI o, ZI bits, ZI what] σ (zq_pp σ (fun r => 0 ≤ r ∧ r ≤ 255)) := by
  refine zq_C_of (by decide) (Nat.le_refl _) (Nat.le_of_ble_eq_true rfl) [some (ZR 0), some (ZI o), some (ZI bits), some (ZI what), none] rfl (fun V hV => ?_)
  show V 0 [some (ZR 0), some (ZI o), some (ZI bits), some (ZI what), none] [] 41 σ
  refine zr_aload_n (pc := 0) hV dX12_addressOf_0 rfl rfl ?_
  refine zr_iload_n (pc := 1) hV dX12_addressOf_1 rfl rfl ?_
  refine zr_iload_n (pc := 2) hV dX12_addressOf_2 rfl rfl ?_
  refine zr_iload_n (pc := 3) hV dX12_addressOf_3 rfl rfl ?_
  refine zr_bipush (pc := 4) hV 6 dX12_addressOf_4 (by decide) ?_
  refine zr_isub (pc := 6) hV dX12_addressOf_6 ?_
  refine zr_callVp (pc := 7) hV [ZI o, ZI bits, ZI (what - 6)] (st := []) (c_X12_fieldOf (σ := σ) hσ o bits (what - 6) (by omega) (by omega) (by omega) q3) dX12_addressOf_7 mX12_289 rfl (by decide) (by decide) (Nat.le_of_ble_eq_true rfl) (Nat.le_refl _) (fun r7 hr7 pr7 => ?_)
  refine zr_istore (pc := 10) hV [some (ZR 0), some (ZI o), some (ZI bits), some (ZI what), some (ZI r7)] dX12_addressOf_10 (by decide) rfl rfl ?_
  refine zr_iload_n (pc := 12) hV dX12_addressOf_12 rfl rfl ?_
  refine zr_bipush (pc := 13) hV 9 dX12_addressOf_13 (by decide) ?_
  refine zr_icmp_ne (pc := 15) hV 23 dX12_addressOf_15 (by decide) (by omega) ⟨by decide, by decide⟩ (fun c1 => ?_) (fun c1 => ?_)
  · show V 23 [some (ZR 0), some (ZI o), some (ZI bits), some (ZI what), some (ZI r7)] [] 41 σ
    refine zr_aload_n (pc := 23) hV dX12_addressOf_23 rfl rfl ?_
    refine zr_getR (pc := 24) hV 24 15 dX12_addressOf_24 fX12_62 rfl rfl rfl (by decide) (zx_g24 hσ) (by omega) ?_
    refine zr_iload (pc := 27) hV dX12_addressOf_27 rfl ?_
    refine zr_iald (pc := 29) hV dX12_addressOf_29 rfl (by decide) rfl (by omega) ?_
    have t2 := zx_stW hσ r7 (by omega)
    show V 30 [some (ZR 0), some (ZI o), some (ZI bits), some (ZI what), some (ZI r7)] [ZI (σ 15 r7)] 41 σ
    exact zr_iret (pc := 30) hV dX12_addressOf_30 rfl rfl ⟨rfl, _, rfl, (by omega), (by omega)⟩
  · show V 18 [some (ZR 0), some (ZI o), some (ZI bits), some (ZI what), some (ZI r7)] [] 41 σ
    refine zr_iload (pc := 18) hV dX12_addressOf_18 rfl ?_
    refine zr_goto (pc := 20) hV 30 dX12_addressOf_20 (by decide) ?_
    show V 30 [some (ZR 0), some (ZI o), some (ZI bits), some (ZI what), some (ZI r7)] [ZI r7] 41 σ
    exact zr_iret (pc := 30) hV dX12_addressOf_30 rfl rfl ⟨rfl, _, rfl, (by omega), (by omega)⟩
set_option maxHeartbeats 800000 in
theorem c_X12_valueOf {σ : zq_S} (hσ : zx_T σ) (o bits what number : Int) (q0 : 0 ≤ o ∧ o ≤ 20) (q1 : zq_in bits) (q2 : 0 ≤ what ∧ what ≤ 10) (q3 : zq_in number) (q4 : zx_B σ o) : zq_C zx_w yX12_valueOf cX12_valueOf 5 (some .int) 2 49 41 41 [ZR 0, ZI o, ZI bits, ZI what, ZI number] σ (zq_pp σ (fun r => 0 ≤ r ∧ r ≤ 255)) := by
  refine zq_C_of (by decide) (Nat.le_refl _) (Nat.le_of_ble_eq_true rfl) [some (ZR 0), some (ZI o), some (ZI bits), some (ZI what), some (ZI number)] rfl (fun V hV => ?_)
  show V 0 [some (ZR 0), some (ZI o), some (ZI bits), some (ZI what), some (ZI number)] [] 41 σ
  refine zr_iload_n (pc := 0) hV dX12_valueOf_0 rfl rfl ?_
  refine zr_iconst (pc := 1) hV 3 dX12_valueOf_1 rfl ?_
  refine zr_icmp_ge (pc := 2) hV 18 dX12_valueOf_2 (by decide) (by omega) ⟨by decide, by decide⟩ (fun c1 => ?_) (fun c1 => ?_)
  · show V 18 [some (ZR 0), some (ZI o), some (ZI bits), some (ZI what), some (ZI number)] [] 41 σ
    refine zr_iload_n (pc := 18) hV dX12_valueOf_18 rfl rfl ?_
    refine zr_iconst (pc := 19) hV 3 dX12_valueOf_19 rfl ?_
    refine zr_icmp_ne (pc := 20) hV 31 dX12_valueOf_20 (by decide) (by omega) ⟨by decide, by decide⟩ (fun c2 => ?_) (fun c2 => ?_)
    · show V 31 [some (ZR 0), some (ZI o), some (ZI bits), some (ZI what), some (ZI number)] [] 41 σ
      refine zr_iload_n (pc := 31) hV dX12_valueOf_31 rfl rfl ?_
      refine zr_iconst (pc := 32) hV 4 dX12_valueOf_32 rfl ?_
      refine zr_icmp_ne (pc := 33) hV 45 dX12_valueOf_33 (by decide) (by omega) ⟨by decide, by decide⟩ (fun c3 => ?_) (fun c3 => ?_)
      · show V 45 [some (ZR 0), some (ZI o), some (ZI bits), some (ZI what), some (ZI number)] [] 41 σ
        refine zr_iload_n (pc := 45) hV dX12_valueOf_45 rfl rfl ?_
        refine zr_iconst (pc := 46) hV 5 dX12_valueOf_46 rfl ?_
        refine zr_icmp_ne (pc := 47) hV 64 dX12_valueOf_47 (by decide) (by omega) ⟨by decide, by decide⟩ (fun c4 => ?_) (fun c4 => ?_)
        · show V 64 [some (ZR 0), some (ZI o), some (ZI bits), some (ZI what), some (ZI number)] [] 41 σ
          refine zr_iload_n (pc := 64) hV dX12_valueOf_64 rfl rfl ?_
          refine zr_bipush (pc := 65) hV 10 dX12_valueOf_65 (by decide) ?_
          refine zr_icmp_ne (pc := 67) hV 80 dX12_valueOf_67 (by decide) (by omega) ⟨by decide, by decide⟩ (fun c5 => ?_) (fun c5 => ?_)
          · show V 80 [some (ZR 0), some (ZI o), some (ZI bits), some (ZI what), some (ZI number)] [] 41 σ
            refine zr_aload_n (pc := 80) hV dX12_valueOf_80 rfl rfl ?_
            refine zr_getR (pc := 81) hV 24 15 dX12_valueOf_81 fX12_62 rfl rfl rfl (by decide) (zx_g24 hσ) (by omega) ?_
            refine zr_bipush (pc := 84) hV 8 dX12_valueOf_84 (by decide) ?_
            refine zr_aload_n (pc := 86) hV dX12_valueOf_86 rfl rfl ?_
            refine zr_iload_n (pc := 87) hV dX12_valueOf_87 rfl rfl ?_
            refine zr_iload_n (pc := 88) hV dX12_valueOf_88 rfl rfl ?_
            refine zr_iload_n (pc := 89) hV dX12_valueOf_89 rfl rfl ?_
            refine zr_callVp (pc := 90) hV [ZI o, ZI bits, ZI what] (st := [ZI 8, ZR 15]) (c_X12_addressOf (σ := σ) hσ o bits what (by omega) (by omega) (by omega) q4) dX12_valueOf_90 mX12_352 rfl (by decide) (by decide) (Nat.le_of_ble_eq_true rfl) (Nat.le_refl _) (fun r90 hr90 pr90 => ?_)
            refine zr_iadd (pc := 93) hV dX12_valueOf_93 ?_
            refine zr_iald (pc := 94) hV dX12_valueOf_94 rfl (by decide) rfl (by omega) ?_
            have t6 := zx_stW hσ (8 + r90) (by omega)
            show V 95 [some (ZR 0), some (ZI o), some (ZI bits), some (ZI what), some (ZI number)] [ZI (σ 15 (8 + r90))] 41 σ
            exact zr_iret (pc := 95) hV dX12_valueOf_95 rfl rfl ⟨rfl, _, rfl, (by omega), (by omega)⟩
          · show V 70 [some (ZR 0), some (ZI o), some (ZI bits), some (ZI what), some (ZI number)] [] 41 σ
            refine zr_iload (pc := 70) hV dX12_valueOf_70 rfl ?_
            refine zr_aload_n (pc := 72) hV dX12_valueOf_72 rfl rfl ?_
            refine zr_callVp (pc := 73) hV [] (st := [ZI number]) (c_X12_mask (σ := σ) hσ ) dX12_valueOf_73 mX12_346 rfl (by decide) (by decide) (Nat.le_of_ble_eq_true rfl) (Nat.le_refl _) (fun r73 hr73 pr73 => ?_)
            refine zr_iand (pc := 76) hV dX12_valueOf_76 ?_
            have t7 := zq_and_nnR (x := number) (y := r73) (by omega)
            refine zr_goto (pc := 77) hV 95 dX12_valueOf_77 (by decide) ?_
            show V 95 [some (ZR 0), some (ZI o), some (ZI bits), some (ZI what), some (ZI number)] [ZI (zq_and number r73)] 41 σ
            exact zr_iret (pc := 95) hV dX12_valueOf_95 rfl rfl ⟨rfl, _, rfl, (by omega), (by omega)⟩
        · show V 50 [some (ZR 0), some (ZI o), some (ZI bits), some (ZI what), some (ZI number)] [] 41 σ
          refine zr_aload_n (pc := 50) hV dX12_valueOf_50 rfl rfl ?_
          refine zr_getR (pc := 51) hV 24 15 dX12_valueOf_51 fX12_62 rfl rfl rfl (by decide) (zx_g24 hσ) (by omega) ?_
          refine zr_sipush (pc := 54) hV 265 dX12_valueOf_54 (by decide) ?_
          refine zr_iald (pc := 57) hV dX12_valueOf_57 rfl (by decide) rfl (by omega) ?_
          have t8 := zx_stP hσ
          refine zr_aload_n (pc := 58) hV dX12_valueOf_58 rfl rfl ?_
          refine zr_callVp (pc := 59) hV [] (st := [ZI (σ 15 265)]) (c_X12_mask (σ := σ) hσ ) dX12_valueOf_59 mX12_346 rfl (by decide) (by decide) (Nat.le_of_ble_eq_true rfl) (Nat.le_refl _) (fun r59 hr59 pr59 => ?_)
          refine zr_iand (pc := 62) hV dX12_valueOf_62 ?_
          have t9 := zq_and_nnR (x := σ 15 265) (y := r59) (by omega)
          exact zr_iret (pc := 63) hV dX12_valueOf_63 rfl rfl ⟨rfl, _, rfl, (by omega), (by omega)⟩
      · show V 36 [some (ZR 0), some (ZI o), some (ZI bits), some (ZI what), some (ZI number)] [] 41 σ
        refine zr_aload_n (pc := 36) hV dX12_valueOf_36 rfl rfl ?_
        refine zr_getR (pc := 37) hV 24 15 dX12_valueOf_37 fX12_62 rfl rfl rfl (by decide) (zx_g24 hσ) (by omega) ?_
        refine zr_sipush (pc := 40) hV 264 dX12_valueOf_40 (by decide) ?_
        refine zr_iald (pc := 43) hV dX12_valueOf_43 rfl (by decide) rfl (by omega) ?_
        have t10 := zx_stZ hσ
        exact zr_iret (pc := 44) hV dX12_valueOf_44 rfl rfl ⟨rfl, _, rfl, (by omega), (by omega)⟩
    · show V 23 [some (ZR 0), some (ZI o), some (ZI bits), some (ZI what), some (ZI number)] [] 41 σ
      refine zr_aload_n (pc := 23) hV dX12_valueOf_23 rfl rfl ?_
      refine zr_iload_n (pc := 24) hV dX12_valueOf_24 rfl rfl ?_
      refine zr_iload_n (pc := 25) hV dX12_valueOf_25 rfl rfl ?_
      refine zr_iconst (pc := 26) hV 3 dX12_valueOf_26 rfl ?_
      refine zr_callVp (pc := 27) hV [ZI o, ZI bits, ZI 3] (st := []) (c_X12_fieldOf (σ := σ) hσ o bits 3 (by omega) (by omega) (by omega) q4) dX12_valueOf_27 mX12_289 rfl (by decide) (by decide) (Nat.le_of_ble_eq_true rfl) (Nat.le_refl _) (fun r27 hr27 pr27 => ?_)
      exact zr_iret (pc := 30) hV dX12_valueOf_30 rfl rfl ⟨rfl, _, rfl, (by omega), (by omega)⟩
  · show V 5 [some (ZR 0), some (ZI o), some (ZI bits), some (ZI what), some (ZI number)] [] 41 σ
    refine zr_aload_n (pc := 5) hV dX12_valueOf_5 rfl rfl ?_
    refine zr_getR (pc := 6) hV 24 15 dX12_valueOf_6 fX12_62 rfl rfl rfl (by decide) (zx_g24 hσ) (by omega) ?_
    refine zr_aload_n (pc := 9) hV dX12_valueOf_9 rfl rfl ?_
    refine zr_iload_n (pc := 10) hV dX12_valueOf_10 rfl rfl ?_
    refine zr_iload_n (pc := 11) hV dX12_valueOf_11 rfl rfl ?_
    refine zr_iload_n (pc := 12) hV dX12_valueOf_12 rfl rfl ?_
    refine zr_callVp (pc := 13) hV [ZI o, ZI bits, ZI what] (st := [ZR 15]) (c_X12_fieldOf (σ := σ) hσ o bits what (by omega) (by omega) (by omega) q4) dX12_valueOf_13 mX12_289 rfl (by decide) (by decide) (Nat.le_of_ble_eq_true rfl) (Nat.le_refl _) (fun r13 hr13 pr13 => ?_)
    refine zr_iald (pc := 16) hV dX12_valueOf_16 rfl (by decide) rfl (by omega) ?_
    have t11 := zx_stW hσ r13 (by omega)
    exact zr_iret (pc := 17) hV dX12_valueOf_17 rfl rfl ⟨rfl, _, rfl, (by omega), (by omega)⟩
set_option maxHeartbeats 800000 in
theorem c_X12_doOrder {σ : zq_S} (hσ : zx_T σ) (o bits : Int) (q0 : 0 ≤ o ∧ o ≤ 20) (q1 : zq_in bits) (q2 : zx_A σ o) (q3 : zx_B σ o) : zq_C zx_w yX12_doOrder cX12_doOrder 9 (none) 3 73 41 41 [ZR 0, ZI o, ZI bits] σ (zq_pv (fun τ => zx_T τ ∧ (∀ a i : Int, (a ≠ 15) → τ a i = σ a i) ∧ (True))) := by
  refine zq_C_of (by decide) (Nat.le_refl _) (Nat.le_of_ble_eq_true rfl) [some (ZR 0), some (ZI o), some (ZI bits), none, none, none, none, none, none] rfl (fun V hV => ?_)
  show V 0 [some (ZR 0), some (ZI o), some (ZI bits), none, none, none, none, none, none] [] 41 σ
  refine zr_aload_n (pc := 0) hV dX12_doOrder_0 rfl rfl ?_
  refine zr_getR (pc := 1) hV 6 3 dX12_doOrder_1 fX12_26 rfl rfl rfl (by decide) (zx_g6 hσ) (by omega) ?_
  refine zr_iload_n (pc := 4) hV dX12_doOrder_4 rfl rfl ?_
  refine zr_iald (pc := 5) hV dX12_doOrder_5 rfl (by decide) rfl (by omega) ?_
  have t1 := zx_ga3 hσ o
  refine zr_if_le (pc := 6) hV 76 dX12_doOrder_6 (by decide) (by omega) (fun c2 => ?_) (fun c2 => ?_)
  · show V 76 [some (ZR 0), some (ZI o), some (ZI bits), none, none, none, none, none, none] [] 41 σ
    refine zr_iconst (pc := 76) hV 0 dX12_doOrder_76 rfl ?_
    refine zr_istore_n (pc := 77) hV [some (ZR 0), some (ZI o), some (ZI bits), some (ZI 0), none, none, none, none, none] dX12_doOrder_77 rfl (by decide) rfl rfl ?_
    have L78 : ∀ (fuel : Nat) (x3_78 : Int) (σ_78 : zq_S), (0 ≤ x3_78 ∧ x3_78 ≤ 3) → (zx_T σ_78) → (∀ a i : Int, (a ≠ 15) → σ_78 a i = σ a i) → 3 - x3_78 < (fuel : Int) → V 78 [some (ZR 0), some (ZI o), some (ZI bits), some (ZI x3_78), none, none, none, none, none] [] 41 σ_78 := by
      intro fuel
      induction fuel with
      | zero =>
        intro x3_78 σ_78 hx3_78 hσ_78 hFσ_78 hm78
        exfalso; omega
      | succ fuel ih =>
        intro x3_78 σ_78 hx3_78 hσ_78 hFσ_78 hm78
        have ih78 := ih
        show V 78 [some (ZR 0), some (ZI o), some (ZI bits), some (ZI x3_78), none, none, none, none, none] [] 41 σ_78
        refine zr_iload_n (pc := 78) hV dX12_doOrder_78 rfl rfl ?_
        refine zr_aload_n (pc := 79) hV dX12_doOrder_79 rfl rfl ?_
        refine zr_getR (pc := 80) hV 8 5 dX12_doOrder_80 fX12_32 rfl rfl rfl (by decide) (zx_g8 hσ_78) (by omega) ?_
        refine zr_iload_n (pc := 83) hV dX12_doOrder_83 rfl rfl ?_
        refine zr_iald (pc := 84) hV dX12_doOrder_84 rfl (by decide) rfl (by omega) ?_
        have t3 := zx_ga5 hσ_78 o
        have t4 : σ_78 5 o = σ 5 o := hFσ_78 _ _ (by omega)
        refine zr_icmp_ge (pc := 85) hV 296 dX12_doOrder_85 (by decide) (by omega) (by omega) (fun c5 => ?_) (fun c5 => ?_)
        · show V 296 [some (ZR 0), some (ZI o), some (ZI bits), some (ZI x3_78), none, none, none, none, none] [] 41 σ_78
          exact zr_vret (pc := 296) hV dX12_doOrder_296 rfl rfl ⟨rfl, hσ_78, hFσ_78, trivial⟩
        · show V 88 [some (ZR 0), some (ZI o), some (ZI bits), some (ZI x3_78), none, none, none, none, none] [] 41 σ_78
          refine zr_bipush (pc := 88) hV 18 dX12_doOrder_88 (by decide) ?_
          refine zr_iload_n (pc := 90) hV dX12_doOrder_90 rfl rfl ?_
          refine zr_imul (pc := 91) hV dX12_doOrder_91 ?_
          refine zr_bipush (pc := 92) hV 6 dX12_doOrder_92 (by decide) ?_
          refine zr_iload_n (pc := 94) hV dX12_doOrder_94 rfl rfl ?_
          refine zr_imul (pc := 95) hV dX12_doOrder_95 ?_
          refine zr_iadd (pc := 96) hV dX12_doOrder_96 ?_
          refine zr_istore (pc := 97) hV [some (ZR 0), some (ZI o), some (ZI bits), some (ZI x3_78), some (ZI ((18 * o) + (6 * x3_78))), none, none, none, none] dX12_doOrder_97 (by decide) rfl rfl ?_
          refine zr_aload_n (pc := 99) hV dX12_doOrder_99 rfl rfl ?_
          refine zr_iload_n (pc := 100) hV dX12_doOrder_100 rfl rfl ?_
          refine zr_iload_n (pc := 101) hV dX12_doOrder_101 rfl rfl ?_
          refine zr_aload_n (pc := 102) hV dX12_doOrder_102 rfl rfl ?_
          refine zr_getR (pc := 103) hV 9 6 dX12_doOrder_103 fX12_35 rfl rfl rfl (by decide) (zx_g9 hσ_78) (by omega) ?_
          refine zr_iload (pc := 106) hV dX12_doOrder_106 rfl ?_
          refine zr_iconst (pc := 108) hV 1 dX12_doOrder_108 rfl ?_
          refine zr_iadd (pc := 109) hV dX12_doOrder_109 ?_
          refine zr_iald (pc := 110) hV dX12_doOrder_110 rfl (by decide) rfl (by omega) ?_
          have t6 := zx_ac1 hσ_78 (((18 * o) + (6 * x3_78)) + 1) (by omega)
          have t7 : σ_78 6 (((18 * o) + (6 * x3_78)) + 1) = σ 6 (((18 * o) + (6 * x3_78)) + 1) := hFσ_78 _ _ (by omega)
          refine zr_aload_n (pc := 111) hV dX12_doOrder_111 rfl rfl ?_
          refine zr_getR (pc := 112) hV 9 6 dX12_doOrder_112 fX12_35 rfl rfl rfl (by decide) (zx_g9 hσ_78) (by omega) ?_
          refine zr_iload (pc := 115) hV dX12_doOrder_115 rfl ?_
          refine zr_iconst (pc := 117) hV 2 dX12_doOrder_117 rfl ?_
          refine zr_iadd (pc := 118) hV dX12_doOrder_118 ?_
          refine zr_iald (pc := 119) hV dX12_doOrder_119 rfl (by decide) rfl (by omega) ?_
          have t8 := zx_ac hσ_78 (((18 * o) + (6 * x3_78)) + 2)
          have t9 : σ_78 6 (((18 * o) + (6 * x3_78)) + 2) = σ 6 (((18 * o) + (6 * x3_78)) + 2) := hFσ_78 _ _ (by omega)
          refine zr_callVp (pc := 120) hV [ZI o, ZI bits, ZI (σ_78 6 (((18 * o) + (6 * x3_78)) + 1)), ZI (σ_78 6 (((18 * o) + (6 * x3_78)) + 2))] (st := []) (c_X12_valueOf (σ := σ_78) hσ_78 o bits (σ_78 6 (((18 * o) + (6 * x3_78)) + 1)) (σ_78 6 (((18 * o) + (6 * x3_78)) + 2)) (by omega) (by omega) (by omega) (by omega) (zx_B_fr (fun i => hFσ_78 2 i (by omega)) (hFσ_78 0 2 (by omega)) q3)) dX12_doOrder_120 mX12_355 rfl (by decide) (by decide) (Nat.le_of_ble_eq_true rfl) (Nat.le_refl _) (fun r120 hr120 pr120 => ?_)
          refine zr_istore (pc := 123) hV [some (ZR 0), some (ZI o), some (ZI bits), some (ZI x3_78), some (ZI ((18 * o) + (6 * x3_78))), some (ZI r120), none, none, none] dX12_doOrder_123 (by decide) rfl rfl ?_
          refine zr_aload_n (pc := 125) hV dX12_doOrder_125 rfl rfl ?_
          refine zr_getR (pc := 126) hV 9 6 dX12_doOrder_126 fX12_35 rfl rfl rfl (by decide) (zx_g9 hσ_78) (by omega) ?_
          refine zr_iload (pc := 129) hV dX12_doOrder_129 rfl ?_
          refine zr_iconst (pc := 131) hV 3 dX12_doOrder_131 rfl ?_
          refine zr_iadd (pc := 132) hV dX12_doOrder_132 ?_
          refine zr_iald (pc := 133) hV dX12_doOrder_133 rfl (by decide) rfl (by omega) ?_
          have t10 := zx_ac3 hσ_78 (((18 * o) + (6 * x3_78)) + 3) (by omega)
          have t11 : σ_78 6 (((18 * o) + (6 * x3_78)) + 3) = σ 6 (((18 * o) + (6 * x3_78)) + 3) := hFσ_78 _ _ (by omega)
          have J165 : ∀ (v0_165 : Int), (0 ≤ v0_165 ∧ v0_165 ≤ 255) → V 165 [some (ZR 0), some (ZI o), some (ZI bits), some (ZI x3_78), some (ZI ((18 * o) + (6 * x3_78))), some (ZI r120), none, none, none] [ZI v0_165] 41 σ_78 := by
            intro v0_165 hv0_165
            show V 165 [some (ZR 0), some (ZI o), some (ZI bits), some (ZI x3_78), some (ZI ((18 * o) + (6 * x3_78))), some (ZI r120), none, none, none] [ZI v0_165] 41 σ_78
            refine zr_istore (pc := 165) hV [some (ZR 0), some (ZI o), some (ZI bits), some (ZI x3_78), some (ZI ((18 * o) + (6 * x3_78))), some (ZI r120), some (ZI v0_165), none, none] dX12_doOrder_165 (by decide) rfl rfl ?_
            refine zr_aload_n (pc := 167) hV dX12_doOrder_167 rfl rfl ?_
            refine zr_getR (pc := 168) hV 9 6 dX12_doOrder_168 fX12_35 rfl rfl rfl (by decide) (zx_g9 hσ_78) (by omega) ?_
            refine zr_iload (pc := 171) hV dX12_doOrder_171 rfl ?_
            refine zr_iconst (pc := 173) hV 3 dX12_doOrder_173 rfl ?_
            refine zr_iadd (pc := 174) hV dX12_doOrder_174 ?_
            refine zr_iald (pc := 175) hV dX12_doOrder_175 rfl (by decide) rfl (by omega) ?_
            have t12 := zx_ac3 hσ_78 (((18 * o) + (6 * x3_78)) + 3) (by omega)
            have t13 : σ_78 6 (((18 * o) + (6 * x3_78)) + 3) = σ 6 (((18 * o) + (6 * x3_78)) + 3) := hFσ_78 _ _ (by omega)
            refine zr_iload (pc := 176) hV dX12_doOrder_176 rfl ?_
            refine zr_iload (pc := 178) hV dX12_doOrder_178 rfl ?_
            refine zr_callSp (pc := 180) hV [ZI (σ_78 6 (((18 * o) + (6 * x3_78)) + 3)), ZI r120, ZI v0_165] (st := []) (c_X12_reckon (σ := σ_78) (σ_78 6 (((18 * o) + (6 * x3_78)) + 3)) r120 v0_165 (by omega) (by omega) (by omega)) dX12_doOrder_180 mX12_304 (by decide) (Nat.le_of_ble_eq_true rfl) (Nat.le_refl _) (fun r180 hr180 pr180 => ?_)
            refine zr_aload_n (pc := 183) hV dX12_doOrder_183 rfl rfl ?_
            refine zr_callVp (pc := 184) hV [] (st := [ZI r180]) (c_X12_mask (σ := σ_78) hσ_78 ) dX12_doOrder_184 mX12_346 rfl (by decide) (by decide) (Nat.le_of_ble_eq_true rfl) (Nat.le_refl _) (fun r184 hr184 pr184 => ?_)
            refine zr_iand (pc := 187) hV dX12_doOrder_187 ?_
            have t14 := zq_and_nnR (x := r180) (y := r184) (by omega)
            refine zr_istore (pc := 188) hV [some (ZR 0), some (ZI o), some (ZI bits), some (ZI x3_78), some (ZI ((18 * o) + (6 * x3_78))), some (ZI r120), some (ZI v0_165), some (ZI (zq_and r180 r184)), none] dX12_doOrder_188 (by decide) rfl rfl ?_
            refine zr_aload_n (pc := 190) hV dX12_doOrder_190 rfl rfl ?_
            refine zr_getR (pc := 191) hV 9 6 dX12_doOrder_191 fX12_35 rfl rfl rfl (by decide) (zx_g9 hσ_78) (by omega) ?_
            refine zr_iload (pc := 194) hV dX12_doOrder_194 rfl ?_
            refine zr_iald (pc := 196) hV dX12_doOrder_196 rfl (by decide) rfl (by omega) ?_
            have t15 := zx_ac0 hσ_78 ((18 * o) + (6 * x3_78)) (by omega)
            have t16 : σ_78 6 ((18 * o) + (6 * x3_78)) = σ 6 ((18 * o) + (6 * x3_78)) := hFσ_78 _ _ (by omega)
            refine zr_istore (pc := 197) hV [some (ZR 0), some (ZI o), some (ZI bits), some (ZI x3_78), some (ZI ((18 * o) + (6 * x3_78))), some (ZI r120), some (ZI v0_165), some (ZI (zq_and r180 r184)), some (ZI (σ_78 6 ((18 * o) + (6 * x3_78))))] dX12_doOrder_197 (by decide) rfl rfl ?_
            refine zr_iload (pc := 199) hV dX12_doOrder_199 rfl ?_
            refine zr_iconst (pc := 201) hV 3 dX12_doOrder_201 rfl ?_
            refine zr_icmp_ge (pc := 202) hV 223 dX12_doOrder_202 (by decide) (by omega) ⟨by decide, by decide⟩ (fun c17 => ?_) (fun c17 => ?_)
            · show V 223 [some (ZR 0), some (ZI o), some (ZI bits), some (ZI x3_78), some (ZI ((18 * o) + (6 * x3_78))), some (ZI r120), some (ZI v0_165), some (ZI (zq_and r180 r184)), some (ZI (σ_78 6 ((18 * o) + (6 * x3_78))))] [] 41 σ_78
              refine zr_iload (pc := 223) hV dX12_doOrder_223 rfl ?_
              refine zr_iconst (pc := 225) hV 4 dX12_doOrder_225 rfl ?_
              refine zr_icmp_ne (pc := 226) hV 250 dX12_doOrder_226 (by decide) (by omega) ⟨by decide, by decide⟩ (fun c18 => ?_) (fun c18 => ?_)
              · show V 250 [some (ZR 0), some (ZI o), some (ZI bits), some (ZI x3_78), some (ZI ((18 * o) + (6 * x3_78))), some (ZI r120), some (ZI v0_165), some (ZI (zq_and r180 r184)), some (ZI (σ_78 6 ((18 * o) + (6 * x3_78))))] [] 41 σ_78
                refine zr_iload (pc := 250) hV dX12_doOrder_250 rfl ?_
                refine zr_iconst (pc := 252) hV 5 dX12_doOrder_252 rfl ?_
                refine zr_icmp_ne (pc := 253) hV 272 dX12_doOrder_253 (by decide) (by omega) ⟨by decide, by decide⟩ (fun c19 => ?_) (fun c19 => ?_)
                · show V 272 [some (ZR 0), some (ZI o), some (ZI bits), some (ZI x3_78), some (ZI ((18 * o) + (6 * x3_78))), some (ZI r120), some (ZI v0_165), some (ZI (zq_and r180 r184)), some (ZI (σ_78 6 ((18 * o) + (6 * x3_78))))] [] 41 σ_78
                  refine zr_aload_n (pc := 272) hV dX12_doOrder_272 rfl rfl ?_
                  refine zr_getR (pc := 273) hV 24 15 dX12_doOrder_273 fX12_62 rfl rfl rfl (by decide) (zx_g24 hσ_78) (by omega) ?_
                  refine zr_bipush (pc := 276) hV 8 dX12_doOrder_276 (by decide) ?_
                  refine zr_aload_n (pc := 278) hV dX12_doOrder_278 rfl rfl ?_
                  refine zr_iload_n (pc := 279) hV dX12_doOrder_279 rfl rfl ?_
                  refine zr_iload_n (pc := 280) hV dX12_doOrder_280 rfl rfl ?_
                  refine zr_iload (pc := 281) hV dX12_doOrder_281 rfl ?_
                  refine zr_callVp (pc := 283) hV [ZI o, ZI bits, ZI (σ_78 6 ((18 * o) + (6 * x3_78)))] (st := [ZI 8, ZR 15]) (c_X12_addressOf (σ := σ_78) hσ_78 o bits (σ_78 6 ((18 * o) + (6 * x3_78))) (by omega) (by omega) (by omega) (zx_B_fr (fun i => hFσ_78 2 i (by omega)) (hFσ_78 0 2 (by omega)) q3)) dX12_doOrder_283 mX12_352 rfl (by decide) (by decide) (Nat.le_of_ble_eq_true rfl) (Nat.le_refl _) (fun r283 hr283 pr283 => ?_)
                  refine zr_iadd (pc := 286) hV dX12_doOrder_286 ?_
                  refine zr_iload (pc := 287) hV dX12_doOrder_287 rfl ?_
                  refine zr_iast (pc := 289) hV dX12_doOrder_289 rfl (by decide) rfl (by omega) (fun σ289 eσ289 => ?_)
                  have hσ289 : zx_T σ289 := zx_ua15 eσ289 hσ_78 (by omega)
                  have hFσ289 : ∀ a i : Int, (a ≠ 15) → σ289 a i = σ a i := fun a i h => by rw [eσ289, zq_up_ne (fun q => h q.1)]; exact hFσ_78 a i h
                  show V 290 [some (ZR 0), some (ZI o), some (ZI bits), some (ZI x3_78), some (ZI ((18 * o) + (6 * x3_78))), some (ZI r120), some (ZI v0_165), some (ZI (zq_and r180 r184)), some (ZI (σ_78 6 ((18 * o) + (6 * x3_78))))] [] 41 σ289
                  refine zr_iinc (pc := 290) hV [some (ZR 0), some (ZI o), some (ZI bits), some (ZI (x3_78 + 1)), some (ZI ((18 * o) + (6 * x3_78))), some (ZI r120), some (ZI v0_165), some (ZI (zq_and r180 r184)), some (ZI (σ_78 6 ((18 * o) + (6 * x3_78))))] (x3_78 + 1) dX12_doOrder_290 rfl rfl (by decide) rfl rfl ?_
                  refine zr_goto (pc := 293) hV 78 dX12_doOrder_293 (by decide) ?_
                  refine zr_sub (pc := 78) hV [some (ZR 0), some (ZI o), some (ZI bits), some (ZI (x3_78 + 1)), none, none, none, none, none] (⟨rfl, rfl, rfl, rfl, trivial⟩) ?_
                  exact ih78 (x3_78 + 1) σ289 (by omega) hσ289 hFσ289 (by omega)
                · show V 256 [some (ZR 0), some (ZI o), some (ZI bits), some (ZI x3_78), some (ZI ((18 * o) + (6 * x3_78))), some (ZI r120), some (ZI v0_165), some (ZI (zq_and r180 r184)), some (ZI (σ_78 6 ((18 * o) + (6 * x3_78))))] [] 41 σ_78
                  refine zr_aload_n (pc := 256) hV dX12_doOrder_256 rfl rfl ?_
                  refine zr_getR (pc := 257) hV 24 15 dX12_doOrder_257 fX12_62 rfl rfl rfl (by decide) (zx_g24 hσ_78) (by omega) ?_
                  refine zr_sipush (pc := 260) hV 265 dX12_doOrder_260 (by decide) ?_
                  refine zr_iload (pc := 263) hV dX12_doOrder_263 rfl ?_
                  refine zr_bipush (pc := 265) hV 64 dX12_doOrder_265 (by decide) ?_
                  refine zr_irem (pc := 267) hV dX12_doOrder_267 ⟨by decide, by decide⟩ (by omega) ?_
                  have t20 := zq_rem_c (x := zq_and r180 r184) 64 (by decide) (by omega)
                  refine zr_iast (pc := 268) hV dX12_doOrder_268 rfl (by decide) rfl (by omega) (fun σ268 eσ268 => ?_)
                  have hσ268 : zx_T σ268 := zx_ua15 eσ268 hσ_78 (by omega)
                  have hFσ268 : ∀ a i : Int, (a ≠ 15) → σ268 a i = σ a i := fun a i h => by rw [eσ268, zq_up_ne (fun q => h q.1)]; exact hFσ_78 a i h
                  refine zr_goto (pc := 269) hV 290 dX12_doOrder_269 (by decide) ?_
                  show V 290 [some (ZR 0), some (ZI o), some (ZI bits), some (ZI x3_78), some (ZI ((18 * o) + (6 * x3_78))), some (ZI r120), some (ZI v0_165), some (ZI (zq_and r180 r184)), some (ZI (σ_78 6 ((18 * o) + (6 * x3_78))))] [] 41 σ268
                  refine zr_iinc (pc := 290) hV [some (ZR 0), some (ZI o), some (ZI bits), some (ZI (x3_78 + 1)), some (ZI ((18 * o) + (6 * x3_78))), some (ZI r120), some (ZI v0_165), some (ZI (zq_and r180 r184)), some (ZI (σ_78 6 ((18 * o) + (6 * x3_78))))] (x3_78 + 1) dX12_doOrder_290 rfl rfl (by decide) rfl rfl ?_
                  refine zr_goto (pc := 293) hV 78 dX12_doOrder_293 (by decide) ?_
                  refine zr_sub (pc := 78) hV [some (ZR 0), some (ZI o), some (ZI bits), some (ZI (x3_78 + 1)), none, none, none, none, none] (⟨rfl, rfl, rfl, rfl, trivial⟩) ?_
                  exact ih78 (x3_78 + 1) σ268 (by omega) hσ268 hFσ268 (by omega)
              · show V 229 [some (ZR 0), some (ZI o), some (ZI bits), some (ZI x3_78), some (ZI ((18 * o) + (6 * x3_78))), some (ZI r120), some (ZI v0_165), some (ZI (zq_and r180 r184)), some (ZI (σ_78 6 ((18 * o) + (6 * x3_78))))] [] 41 σ_78
                refine zr_aload_n (pc := 229) hV dX12_doOrder_229 rfl rfl ?_
                refine zr_getR (pc := 230) hV 24 15 dX12_doOrder_230 fX12_62 rfl rfl rfl (by decide) (zx_g24 hσ_78) (by omega) ?_
                refine zr_sipush (pc := 233) hV 264 dX12_doOrder_233 (by decide) ?_
                refine zr_iload (pc := 236) hV dX12_doOrder_236 rfl ?_
                refine zr_if_eq (pc := 238) hV 245 dX12_doOrder_238 (by decide) (by omega) (fun c21 => ?_) (fun c21 => ?_)
                · show V 245 [some (ZR 0), some (ZI o), some (ZI bits), some (ZI x3_78), some (ZI ((18 * o) + (6 * x3_78))), some (ZI r120), some (ZI v0_165), some (ZI (zq_and r180 r184)), some (ZI (σ_78 6 ((18 * o) + (6 * x3_78))))] [ZI 264, ZR 15] 41 σ_78
                  refine zr_iconst (pc := 245) hV 0 dX12_doOrder_245 rfl ?_
                  show V 246 [some (ZR 0), some (ZI o), some (ZI bits), some (ZI x3_78), some (ZI ((18 * o) + (6 * x3_78))), some (ZI r120), some (ZI v0_165), some (ZI (zq_and r180 r184)), some (ZI (σ_78 6 ((18 * o) + (6 * x3_78))))] [ZI 0, ZI 264, ZR 15] 41 σ_78
                  refine zr_iast (pc := 246) hV dX12_doOrder_246 rfl (by decide) rfl (by omega) (fun σ246 eσ246 => ?_)
                  have hσ246 : zx_T σ246 := zx_ua15 eσ246 hσ_78 (by omega)
                  have hFσ246 : ∀ a i : Int, (a ≠ 15) → σ246 a i = σ a i := fun a i h => by rw [eσ246, zq_up_ne (fun q => h q.1)]; exact hFσ_78 a i h
                  refine zr_goto (pc := 247) hV 290 dX12_doOrder_247 (by decide) ?_
                  show V 290 [some (ZR 0), some (ZI o), some (ZI bits), some (ZI x3_78), some (ZI ((18 * o) + (6 * x3_78))), some (ZI r120), some (ZI v0_165), some (ZI (zq_and r180 r184)), some (ZI (σ_78 6 ((18 * o) + (6 * x3_78))))] [] 41 σ246
                  refine zr_iinc (pc := 290) hV [some (ZR 0), some (ZI o), some (ZI bits), some (ZI (x3_78 + 1)), some (ZI ((18 * o) + (6 * x3_78))), some (ZI r120), some (ZI v0_165), some (ZI (zq_and r180 r184)), some (ZI (σ_78 6 ((18 * o) + (6 * x3_78))))] (x3_78 + 1) dX12_doOrder_290 rfl rfl (by decide) rfl rfl ?_
                  refine zr_goto (pc := 293) hV 78 dX12_doOrder_293 (by decide) ?_
                  refine zr_sub (pc := 78) hV [some (ZR 0), some (ZI o), some (ZI bits), some (ZI (x3_78 + 1)), none, none, none, none, none] (⟨rfl, rfl, rfl, rfl, trivial⟩) ?_
                  exact ih78 (x3_78 + 1) σ246 (by omega) hσ246 hFσ246 (by omega)
                · show V 241 [some (ZR 0), some (ZI o), some (ZI bits), some (ZI x3_78), some (ZI ((18 * o) + (6 * x3_78))), some (ZI r120), some (ZI v0_165), some (ZI (zq_and r180 r184)), some (ZI (σ_78 6 ((18 * o) + (6 * x3_78))))] [ZI 264, ZR 15] 41 σ_78
                  refine zr_iconst (pc := 241) hV 1 dX12_doOrder_241 rfl ?_
                  refine zr_goto (pc := 242) hV 246 dX12_doOrder_242 (by decide) ?_
                  show V 246 [some (ZR 0), some (ZI o), some (ZI bits), some (ZI x3_78), some (ZI ((18 * o) + (6 * x3_78))), some (ZI r120), some (ZI v0_165), some (ZI (zq_and r180 r184)), some (ZI (σ_78 6 ((18 * o) + (6 * x3_78))))] [ZI 1, ZI 264, ZR 15] 41 σ_78
                  refine zr_iast (pc := 246) hV dX12_doOrder_246 rfl (by decide) rfl (by omega) (fun σ246 eσ246 => ?_)
                  have hσ246 : zx_T σ246 := zx_ua15 eσ246 hσ_78 (by omega)
                  have hFσ246 : ∀ a i : Int, (a ≠ 15) → σ246 a i = σ a i := fun a i h => by rw [eσ246, zq_up_ne (fun q => h q.1)]; exact hFσ_78 a i h
                  refine zr_goto (pc := 247) hV 290 dX12_doOrder_247 (by decide) ?_
                  show V 290 [some (ZR 0), some (ZI o), some (ZI bits), some (ZI x3_78), some (ZI ((18 * o) + (6 * x3_78))), some (ZI r120), some (ZI v0_165), some (ZI (zq_and r180 r184)), some (ZI (σ_78 6 ((18 * o) + (6 * x3_78))))] [] 41 σ246
                  refine zr_iinc (pc := 290) hV [some (ZR 0), some (ZI o), some (ZI bits), some (ZI (x3_78 + 1)), some (ZI ((18 * o) + (6 * x3_78))), some (ZI r120), some (ZI v0_165), some (ZI (zq_and r180 r184)), some (ZI (σ_78 6 ((18 * o) + (6 * x3_78))))] (x3_78 + 1) dX12_doOrder_290 rfl rfl (by decide) rfl rfl ?_
                  refine zr_goto (pc := 293) hV 78 dX12_doOrder_293 (by decide) ?_
                  refine zr_sub (pc := 78) hV [some (ZR 0), some (ZI o), some (ZI bits), some (ZI (x3_78 + 1)), none, none, none, none, none] (⟨rfl, rfl, rfl, rfl, trivial⟩) ?_
                  exact ih78 (x3_78 + 1) σ246 (by omega) hσ246 hFσ246 (by omega)
            · show V 205 [some (ZR 0), some (ZI o), some (ZI bits), some (ZI x3_78), some (ZI ((18 * o) + (6 * x3_78))), some (ZI r120), some (ZI v0_165), some (ZI (zq_and r180 r184)), some (ZI (σ_78 6 ((18 * o) + (6 * x3_78))))] [] 41 σ_78
              refine zr_aload_n (pc := 205) hV dX12_doOrder_205 rfl rfl ?_
              refine zr_getR (pc := 206) hV 24 15 dX12_doOrder_206 fX12_62 rfl rfl rfl (by decide) (zx_g24 hσ_78) (by omega) ?_
              refine zr_aload_n (pc := 209) hV dX12_doOrder_209 rfl rfl ?_
              refine zr_iload_n (pc := 210) hV dX12_doOrder_210 rfl rfl ?_
              refine zr_iload_n (pc := 211) hV dX12_doOrder_211 rfl rfl ?_
              refine zr_iload (pc := 212) hV dX12_doOrder_212 rfl ?_
              refine zr_callVp (pc := 214) hV [ZI o, ZI bits, ZI (σ_78 6 ((18 * o) + (6 * x3_78)))] (st := [ZR 15]) (c_X12_fieldOf (σ := σ_78) hσ_78 o bits (σ_78 6 ((18 * o) + (6 * x3_78))) (by omega) (by omega) (by omega) (zx_B_fr (fun i => hFσ_78 2 i (by omega)) (hFσ_78 0 2 (by omega)) q3)) dX12_doOrder_214 mX12_289 rfl (by decide) (by decide) (Nat.le_of_ble_eq_true rfl) (Nat.le_refl _) (fun r214 hr214 pr214 => ?_)
              refine zr_iload (pc := 217) hV dX12_doOrder_217 rfl ?_
              refine zr_iast (pc := 219) hV dX12_doOrder_219 rfl (by decide) rfl (by omega) (fun σ219 eσ219 => ?_)
              have hσ219 : zx_T σ219 := zx_ua15 eσ219 hσ_78 (by omega)
              have hFσ219 : ∀ a i : Int, (a ≠ 15) → σ219 a i = σ a i := fun a i h => by rw [eσ219, zq_up_ne (fun q => h q.1)]; exact hFσ_78 a i h
              refine zr_goto (pc := 220) hV 290 dX12_doOrder_220 (by decide) ?_
              show V 290 [some (ZR 0), some (ZI o), some (ZI bits), some (ZI x3_78), some (ZI ((18 * o) + (6 * x3_78))), some (ZI r120), some (ZI v0_165), some (ZI (zq_and r180 r184)), some (ZI (σ_78 6 ((18 * o) + (6 * x3_78))))] [] 41 σ219
              refine zr_iinc (pc := 290) hV [some (ZR 0), some (ZI o), some (ZI bits), some (ZI (x3_78 + 1)), some (ZI ((18 * o) + (6 * x3_78))), some (ZI r120), some (ZI v0_165), some (ZI (zq_and r180 r184)), some (ZI (σ_78 6 ((18 * o) + (6 * x3_78))))] (x3_78 + 1) dX12_doOrder_290 rfl rfl (by decide) rfl rfl ?_
              refine zr_goto (pc := 293) hV 78 dX12_doOrder_293 (by decide) ?_
              refine zr_sub (pc := 78) hV [some (ZR 0), some (ZI o), some (ZI bits), some (ZI (x3_78 + 1)), none, none, none, none, none] (⟨rfl, rfl, rfl, rfl, trivial⟩) ?_
              exact ih78 (x3_78 + 1) σ219 (by omega) hσ219 hFσ219 (by omega)
          refine zr_if_le (pc := 134) hV 164 dX12_doOrder_134 (by decide) (by omega) (fun c22 => ?_) (fun c22 => ?_)
          · show V 164 [some (ZR 0), some (ZI o), some (ZI bits), some (ZI x3_78), some (ZI ((18 * o) + (6 * x3_78))), some (ZI r120), none, none, none] [] 41 σ_78
            refine zr_iconst (pc := 164) hV 0 dX12_doOrder_164 rfl ?_
            exact J165 0 (by omega)
          · show V 137 [some (ZR 0), some (ZI o), some (ZI bits), some (ZI x3_78), some (ZI ((18 * o) + (6 * x3_78))), some (ZI r120), none, none, none] [] 41 σ_78
            refine zr_aload_n (pc := 137) hV dX12_doOrder_137 rfl rfl ?_
            refine zr_iload_n (pc := 138) hV dX12_doOrder_138 rfl rfl ?_
            refine zr_iload_n (pc := 139) hV dX12_doOrder_139 rfl rfl ?_
            refine zr_aload_n (pc := 140) hV dX12_doOrder_140 rfl rfl ?_
            refine zr_getR (pc := 141) hV 9 6 dX12_doOrder_141 fX12_35 rfl rfl rfl (by decide) (zx_g9 hσ_78) (by omega) ?_
            refine zr_iload (pc := 144) hV dX12_doOrder_144 rfl ?_
            refine zr_iconst (pc := 146) hV 4 dX12_doOrder_146 rfl ?_
            refine zr_iadd (pc := 147) hV dX12_doOrder_147 ?_
            refine zr_iald (pc := 148) hV dX12_doOrder_148 rfl (by decide) rfl (by omega) ?_
            have t23 := zx_ac4 hσ_78 (((18 * o) + (6 * x3_78)) + 4) (by omega)
            have t24 : σ_78 6 (((18 * o) + (6 * x3_78)) + 4) = σ 6 (((18 * o) + (6 * x3_78)) + 4) := hFσ_78 _ _ (by omega)
            have za := q2 x3_78 (by omega) (by omega)
            refine zr_aload_n (pc := 149) hV dX12_doOrder_149 rfl rfl ?_
            refine zr_getR (pc := 150) hV 9 6 dX12_doOrder_150 fX12_35 rfl rfl rfl (by decide) (zx_g9 hσ_78) (by omega) ?_
            refine zr_iload (pc := 153) hV dX12_doOrder_153 rfl ?_
            refine zr_iconst (pc := 155) hV 5 dX12_doOrder_155 rfl ?_
            refine zr_iadd (pc := 156) hV dX12_doOrder_156 ?_
            refine zr_iald (pc := 157) hV dX12_doOrder_157 rfl (by decide) rfl (by omega) ?_
            have t25 := zx_ac hσ_78 (((18 * o) + (6 * x3_78)) + 5)
            have t26 : σ_78 6 (((18 * o) + (6 * x3_78)) + 5) = σ 6 (((18 * o) + (6 * x3_78)) + 5) := hFσ_78 _ _ (by omega)
            refine zr_callVp (pc := 158) hV [ZI o, ZI bits, ZI (σ_78 6 (((18 * o) + (6 * x3_78)) + 4)), ZI (σ_78 6 (((18 * o) + (6 * x3_78)) + 5))] (st := []) (c_X12_valueOf (σ := σ_78) hσ_78 o bits (σ_78 6 (((18 * o) + (6 * x3_78)) + 4)) (σ_78 6 (((18 * o) + (6 * x3_78)) + 5)) (by omega) (by omega) (by omega) (by omega) (zx_B_fr (fun i => hFσ_78 2 i (by omega)) (hFσ_78 0 2 (by omega)) q3)) dX12_doOrder_158 mX12_355 rfl (by decide) (by decide) (Nat.le_of_ble_eq_true rfl) (Nat.le_refl _) (fun r158 hr158 pr158 => ?_)
            refine zr_goto (pc := 161) hV 165 dX12_doOrder_161 (by decide) ?_
            exact J165 r158 (by omega)
    exact L78 (3 - (0 : Int) + 1 : Int).toNat 0 σ (by omega) hσ (fun a i _ => rfl) (by omega)
  · show V 9 [some (ZR 0), some (ZI o), some (ZI bits), none, none, none, none, none, none] [] 41 σ
    refine zr_aload_n (pc := 9) hV dX12_doOrder_9 rfl rfl ?_
    refine zr_getR (pc := 10) hV 7 4 dX12_doOrder_10 fX12_29 rfl rfl rfl (by decide) (zx_g7 hσ) (by omega) ?_
    refine zr_iload_n (pc := 13) hV dX12_doOrder_13 rfl rfl ?_
    refine zr_iald (pc := 14) hV dX12_doOrder_14 rfl (by decide) rfl (by omega) ?_
    have t27 := zx_ga4 hσ o
    refine zr_iconst (pc := 15) hV 4 dX12_doOrder_15 rfl ?_
    have J47 : ∀ (v0_47 : Int), (0 ≤ v0_47 ∧ v0_47 ≤ 255) → V 47 [some (ZR 0), some (ZI o), some (ZI bits), none, none, none, none, none, none] [ZI v0_47] 41 σ := by
      intro v0_47 hv0_47
      show V 47 [some (ZR 0), some (ZI o), some (ZI bits), none, none, none, none, none, none] [ZI v0_47] 41 σ
      refine zr_istore_n (pc := 47) hV [some (ZR 0), some (ZI o), some (ZI bits), some (ZI v0_47), none, none, none, none, none] dX12_doOrder_47 rfl (by decide) rfl rfl ?_
      refine zr_iload_n (pc := 48) hV dX12_doOrder_48 rfl rfl ?_
      refine zr_if_eq (pc := 49) hV 56 dX12_doOrder_49 (by decide) (by omega) (fun c28 => ?_) (fun c28 => ?_)
      · show V 56 [some (ZR 0), some (ZI o), some (ZI bits), some (ZI v0_47), none, none, none, none, none] [] 41 σ
        refine zr_iconst (pc := 56) hV 0 dX12_doOrder_56 rfl ?_
        show V 57 [some (ZR 0), some (ZI o), some (ZI bits), some (ZI v0_47), none, none, none, none, none] [ZI 0] 41 σ
        refine zr_aload_n (pc := 57) hV dX12_doOrder_57 rfl rfl ?_
        refine zr_getR (pc := 58) hV 6 3 dX12_doOrder_58 fX12_26 rfl rfl rfl (by decide) (zx_g6 hσ) (by omega) ?_
        refine zr_iload_n (pc := 61) hV dX12_doOrder_61 rfl rfl ?_
        refine zr_iald (pc := 62) hV dX12_doOrder_62 rfl (by decide) rfl (by omega) ?_
        have t29 := zx_ga3 hσ o
        refine zr_iconst (pc := 63) hV 1 dX12_doOrder_63 rfl ?_
        refine zr_icmp_ne (pc := 64) hV 71 dX12_doOrder_64 (by decide) (by omega) ⟨by decide, by decide⟩ (fun c30 => ?_) (fun c30 => ?_)
        · show V 71 [some (ZR 0), some (ZI o), some (ZI bits), some (ZI v0_47), none, none, none, none, none] [ZI 0] 41 σ
          refine zr_iconst (pc := 71) hV 0 dX12_doOrder_71 rfl ?_
          show V 72 [some (ZR 0), some (ZI o), some (ZI bits), some (ZI v0_47), none, none, none, none, none] [ZI 0, ZI 0] 41 σ
          refine zr_icmp_eq (pc := 72) hV 76 dX12_doOrder_72 (by decide) ⟨by decide, by decide⟩ ⟨by decide, by decide⟩ (fun c31 => ?_) (fun c31 => ?_)
          · show V 76 [some (ZR 0), some (ZI o), some (ZI bits), some (ZI v0_47), none, none, none, none, none] [] 41 σ
            refine zr_iconst (pc := 76) hV 0 dX12_doOrder_76 rfl ?_
            refine zr_istore_n (pc := 77) hV [some (ZR 0), some (ZI o), some (ZI bits), some (ZI 0), none, none, none, none, none] dX12_doOrder_77 rfl (by decide) rfl rfl ?_
            have L78 : ∀ (fuel : Nat) (x3_78 : Int) (σ_78 : zq_S), (0 ≤ x3_78 ∧ x3_78 ≤ 3) → (zx_T σ_78) → (∀ a i : Int, (a ≠ 15) → σ_78 a i = σ a i) → 3 - x3_78 < (fuel : Int) → V 78 [some (ZR 0), some (ZI o), some (ZI bits), some (ZI x3_78), none, none, none, none, none] [] 41 σ_78 := by
              intro fuel
              induction fuel with
              | zero =>
                intro x3_78 σ_78 hx3_78 hσ_78 hFσ_78 hm78
                exfalso; omega
              | succ fuel ih =>
                intro x3_78 σ_78 hx3_78 hσ_78 hFσ_78 hm78
                have ih78 := ih
                show V 78 [some (ZR 0), some (ZI o), some (ZI bits), some (ZI x3_78), none, none, none, none, none] [] 41 σ_78
                refine zr_iload_n (pc := 78) hV dX12_doOrder_78 rfl rfl ?_
                refine zr_aload_n (pc := 79) hV dX12_doOrder_79 rfl rfl ?_
                refine zr_getR (pc := 80) hV 8 5 dX12_doOrder_80 fX12_32 rfl rfl rfl (by decide) (zx_g8 hσ_78) (by omega) ?_
                refine zr_iload_n (pc := 83) hV dX12_doOrder_83 rfl rfl ?_
                refine zr_iald (pc := 84) hV dX12_doOrder_84 rfl (by decide) rfl (by omega) ?_
                have t32 := zx_ga5 hσ_78 o
                have t33 : σ_78 5 o = σ 5 o := hFσ_78 _ _ (by omega)
                refine zr_icmp_ge (pc := 85) hV 296 dX12_doOrder_85 (by decide) (by omega) (by omega) (fun c34 => ?_) (fun c34 => ?_)
                · show V 296 [some (ZR 0), some (ZI o), some (ZI bits), some (ZI x3_78), none, none, none, none, none] [] 41 σ_78
                  exact zr_vret (pc := 296) hV dX12_doOrder_296 rfl rfl ⟨rfl, hσ_78, hFσ_78, trivial⟩
                · show V 88 [some (ZR 0), some (ZI o), some (ZI bits), some (ZI x3_78), none, none, none, none, none] [] 41 σ_78
                  refine zr_bipush (pc := 88) hV 18 dX12_doOrder_88 (by decide) ?_
                  refine zr_iload_n (pc := 90) hV dX12_doOrder_90 rfl rfl ?_
                  refine zr_imul (pc := 91) hV dX12_doOrder_91 ?_
                  refine zr_bipush (pc := 92) hV 6 dX12_doOrder_92 (by decide) ?_
                  refine zr_iload_n (pc := 94) hV dX12_doOrder_94 rfl rfl ?_
                  refine zr_imul (pc := 95) hV dX12_doOrder_95 ?_
                  refine zr_iadd (pc := 96) hV dX12_doOrder_96 ?_
                  refine zr_istore (pc := 97) hV [some (ZR 0), some (ZI o), some (ZI bits), some (ZI x3_78), some (ZI ((18 * o) + (6 * x3_78))), none, none, none, none] dX12_doOrder_97 (by decide) rfl rfl ?_
                  refine zr_aload_n (pc := 99) hV dX12_doOrder_99 rfl rfl ?_
                  refine zr_iload_n (pc := 100) hV dX12_doOrder_100 rfl rfl ?_
                  refine zr_iload_n (pc := 101) hV dX12_doOrder_101 rfl rfl ?_
                  refine zr_aload_n (pc := 102) hV dX12_doOrder_102 rfl rfl ?_
                  refine zr_getR (pc := 103) hV 9 6 dX12_doOrder_103 fX12_35 rfl rfl rfl (by decide) (zx_g9 hσ_78) (by omega) ?_
                  refine zr_iload (pc := 106) hV dX12_doOrder_106 rfl ?_
                  refine zr_iconst (pc := 108) hV 1 dX12_doOrder_108 rfl ?_
                  refine zr_iadd (pc := 109) hV dX12_doOrder_109 ?_
                  refine zr_iald (pc := 110) hV dX12_doOrder_110 rfl (by decide) rfl (by omega) ?_
                  have t35 := zx_ac1 hσ_78 (((18 * o) + (6 * x3_78)) + 1) (by omega)
                  have t36 : σ_78 6 (((18 * o) + (6 * x3_78)) + 1) = σ 6 (((18 * o) + (6 * x3_78)) + 1) := hFσ_78 _ _ (by omega)
                  refine zr_aload_n (pc := 111) hV dX12_doOrder_111 rfl rfl ?_
                  refine zr_getR (pc := 112) hV 9 6 dX12_doOrder_112 fX12_35 rfl rfl rfl (by decide) (zx_g9 hσ_78) (by omega) ?_
                  refine zr_iload (pc := 115) hV dX12_doOrder_115 rfl ?_
                  refine zr_iconst (pc := 117) hV 2 dX12_doOrder_117 rfl ?_
                  refine zr_iadd (pc := 118) hV dX12_doOrder_118 ?_
                  refine zr_iald (pc := 119) hV dX12_doOrder_119 rfl (by decide) rfl (by omega) ?_
                  have t37 := zx_ac hσ_78 (((18 * o) + (6 * x3_78)) + 2)
                  have t38 : σ_78 6 (((18 * o) + (6 * x3_78)) + 2) = σ 6 (((18 * o) + (6 * x3_78)) + 2) := hFσ_78 _ _ (by omega)
                  refine zr_callVp (pc := 120) hV [ZI o, ZI bits, ZI (σ_78 6 (((18 * o) + (6 * x3_78)) + 1)), ZI (σ_78 6 (((18 * o) + (6 * x3_78)) + 2))] (st := []) (c_X12_valueOf (σ := σ_78) hσ_78 o bits (σ_78 6 (((18 * o) + (6 * x3_78)) + 1)) (σ_78 6 (((18 * o) + (6 * x3_78)) + 2)) (by omega) (by omega) (by omega) (by omega) (zx_B_fr (fun i => hFσ_78 2 i (by omega)) (hFσ_78 0 2 (by omega)) q3)) dX12_doOrder_120 mX12_355 rfl (by decide) (by decide) (Nat.le_of_ble_eq_true rfl) (Nat.le_refl _) (fun r120 hr120 pr120 => ?_)
                  refine zr_istore (pc := 123) hV [some (ZR 0), some (ZI o), some (ZI bits), some (ZI x3_78), some (ZI ((18 * o) + (6 * x3_78))), some (ZI r120), none, none, none] dX12_doOrder_123 (by decide) rfl rfl ?_
                  refine zr_aload_n (pc := 125) hV dX12_doOrder_125 rfl rfl ?_
                  refine zr_getR (pc := 126) hV 9 6 dX12_doOrder_126 fX12_35 rfl rfl rfl (by decide) (zx_g9 hσ_78) (by omega) ?_
                  refine zr_iload (pc := 129) hV dX12_doOrder_129 rfl ?_
                  refine zr_iconst (pc := 131) hV 3 dX12_doOrder_131 rfl ?_
                  refine zr_iadd (pc := 132) hV dX12_doOrder_132 ?_
                  refine zr_iald (pc := 133) hV dX12_doOrder_133 rfl (by decide) rfl (by omega) ?_
                  have t39 := zx_ac3 hσ_78 (((18 * o) + (6 * x3_78)) + 3) (by omega)
                  have t40 : σ_78 6 (((18 * o) + (6 * x3_78)) + 3) = σ 6 (((18 * o) + (6 * x3_78)) + 3) := hFσ_78 _ _ (by omega)
                  have J165 : ∀ (v0_165 : Int), (0 ≤ v0_165 ∧ v0_165 ≤ 255) → V 165 [some (ZR 0), some (ZI o), some (ZI bits), some (ZI x3_78), some (ZI ((18 * o) + (6 * x3_78))), some (ZI r120), none, none, none] [ZI v0_165] 41 σ_78 := by
                    intro v0_165 hv0_165
                    show V 165 [some (ZR 0), some (ZI o), some (ZI bits), some (ZI x3_78), some (ZI ((18 * o) + (6 * x3_78))), some (ZI r120), none, none, none] [ZI v0_165] 41 σ_78
                    refine zr_istore (pc := 165) hV [some (ZR 0), some (ZI o), some (ZI bits), some (ZI x3_78), some (ZI ((18 * o) + (6 * x3_78))), some (ZI r120), some (ZI v0_165), none, none] dX12_doOrder_165 (by decide) rfl rfl ?_
                    refine zr_aload_n (pc := 167) hV dX12_doOrder_167 rfl rfl ?_
                    refine zr_getR (pc := 168) hV 9 6 dX12_doOrder_168 fX12_35 rfl rfl rfl (by decide) (zx_g9 hσ_78) (by omega) ?_
                    refine zr_iload (pc := 171) hV dX12_doOrder_171 rfl ?_
                    refine zr_iconst (pc := 173) hV 3 dX12_doOrder_173 rfl ?_
                    refine zr_iadd (pc := 174) hV dX12_doOrder_174 ?_
                    refine zr_iald (pc := 175) hV dX12_doOrder_175 rfl (by decide) rfl (by omega) ?_
                    have t41 := zx_ac3 hσ_78 (((18 * o) + (6 * x3_78)) + 3) (by omega)
                    have t42 : σ_78 6 (((18 * o) + (6 * x3_78)) + 3) = σ 6 (((18 * o) + (6 * x3_78)) + 3) := hFσ_78 _ _ (by omega)
                    refine zr_iload (pc := 176) hV dX12_doOrder_176 rfl ?_
                    refine zr_iload (pc := 178) hV dX12_doOrder_178 rfl ?_
                    refine zr_callSp (pc := 180) hV [ZI (σ_78 6 (((18 * o) + (6 * x3_78)) + 3)), ZI r120, ZI v0_165] (st := []) (c_X12_reckon (σ := σ_78) (σ_78 6 (((18 * o) + (6 * x3_78)) + 3)) r120 v0_165 (by omega) (by omega) (by omega)) dX12_doOrder_180 mX12_304 (by decide) (Nat.le_of_ble_eq_true rfl) (Nat.le_refl _) (fun r180 hr180 pr180 => ?_)
                    refine zr_aload_n (pc := 183) hV dX12_doOrder_183 rfl rfl ?_
                    refine zr_callVp (pc := 184) hV [] (st := [ZI r180]) (c_X12_mask (σ := σ_78) hσ_78 ) dX12_doOrder_184 mX12_346 rfl (by decide) (by decide) (Nat.le_of_ble_eq_true rfl) (Nat.le_refl _) (fun r184 hr184 pr184 => ?_)
                    refine zr_iand (pc := 187) hV dX12_doOrder_187 ?_
                    have t43 := zq_and_nnR (x := r180) (y := r184) (by omega)
                    refine zr_istore (pc := 188) hV [some (ZR 0), some (ZI o), some (ZI bits), some (ZI x3_78), some (ZI ((18 * o) + (6 * x3_78))), some (ZI r120), some (ZI v0_165), some (ZI (zq_and r180 r184)), none] dX12_doOrder_188 (by decide) rfl rfl ?_
                    refine zr_aload_n (pc := 190) hV dX12_doOrder_190 rfl rfl ?_
                    refine zr_getR (pc := 191) hV 9 6 dX12_doOrder_191 fX12_35 rfl rfl rfl (by decide) (zx_g9 hσ_78) (by omega) ?_
                    refine zr_iload (pc := 194) hV dX12_doOrder_194 rfl ?_
                    refine zr_iald (pc := 196) hV dX12_doOrder_196 rfl (by decide) rfl (by omega) ?_
                    have t44 := zx_ac0 hσ_78 ((18 * o) + (6 * x3_78)) (by omega)
                    have t45 : σ_78 6 ((18 * o) + (6 * x3_78)) = σ 6 ((18 * o) + (6 * x3_78)) := hFσ_78 _ _ (by omega)
                    refine zr_istore (pc := 197) hV [some (ZR 0), some (ZI o), some (ZI bits), some (ZI x3_78), some (ZI ((18 * o) + (6 * x3_78))), some (ZI r120), some (ZI v0_165), some (ZI (zq_and r180 r184)), some (ZI (σ_78 6 ((18 * o) + (6 * x3_78))))] dX12_doOrder_197 (by decide) rfl rfl ?_
                    refine zr_iload (pc := 199) hV dX12_doOrder_199 rfl ?_
                    refine zr_iconst (pc := 201) hV 3 dX12_doOrder_201 rfl ?_
                    refine zr_icmp_ge (pc := 202) hV 223 dX12_doOrder_202 (by decide) (by omega) ⟨by decide, by decide⟩ (fun c46 => ?_) (fun c46 => ?_)
                    · show V 223 [some (ZR 0), some (ZI o), some (ZI bits), some (ZI x3_78), some (ZI ((18 * o) + (6 * x3_78))), some (ZI r120), some (ZI v0_165), some (ZI (zq_and r180 r184)), some (ZI (σ_78 6 ((18 * o) + (6 * x3_78))))] [] 41 σ_78
                      refine zr_iload (pc := 223) hV dX12_doOrder_223 rfl ?_
                      refine zr_iconst (pc := 225) hV 4 dX12_doOrder_225 rfl ?_
                      refine zr_icmp_ne (pc := 226) hV 250 dX12_doOrder_226 (by decide) (by omega) ⟨by decide, by decide⟩ (fun c47 => ?_) (fun c47 => ?_)
                      · show V 250 [some (ZR 0), some (ZI o), some (ZI bits), some (ZI x3_78), some (ZI ((18 * o) + (6 * x3_78))), some (ZI r120), some (ZI v0_165), some (ZI (zq_and r180 r184)), some (ZI (σ_78 6 ((18 * o) + (6 * x3_78))))] [] 41 σ_78
                        refine zr_iload (pc := 250) hV dX12_doOrder_250 rfl ?_
                        refine zr_iconst (pc := 252) hV 5 dX12_doOrder_252 rfl ?_
                        refine zr_icmp_ne (pc := 253) hV 272 dX12_doOrder_253 (by decide) (by omega) ⟨by decide, by decide⟩ (fun c48 => ?_) (fun c48 => ?_)
                        · show V 272 [some (ZR 0), some (ZI o), some (ZI bits), some (ZI x3_78), some (ZI ((18 * o) + (6 * x3_78))), some (ZI r120), some (ZI v0_165), some (ZI (zq_and r180 r184)), some (ZI (σ_78 6 ((18 * o) + (6 * x3_78))))] [] 41 σ_78
                          refine zr_aload_n (pc := 272) hV dX12_doOrder_272 rfl rfl ?_
                          refine zr_getR (pc := 273) hV 24 15 dX12_doOrder_273 fX12_62 rfl rfl rfl (by decide) (zx_g24 hσ_78) (by omega) ?_
                          refine zr_bipush (pc := 276) hV 8 dX12_doOrder_276 (by decide) ?_
                          refine zr_aload_n (pc := 278) hV dX12_doOrder_278 rfl rfl ?_
                          refine zr_iload_n (pc := 279) hV dX12_doOrder_279 rfl rfl ?_
                          refine zr_iload_n (pc := 280) hV dX12_doOrder_280 rfl rfl ?_
                          refine zr_iload (pc := 281) hV dX12_doOrder_281 rfl ?_
                          refine zr_callVp (pc := 283) hV [ZI o, ZI bits, ZI (σ_78 6 ((18 * o) + (6 * x3_78)))] (st := [ZI 8, ZR 15]) (c_X12_addressOf (σ := σ_78) hσ_78 o bits (σ_78 6 ((18 * o) + (6 * x3_78))) (by omega) (by omega) (by omega) (zx_B_fr (fun i => hFσ_78 2 i (by omega)) (hFσ_78 0 2 (by omega)) q3)) dX12_doOrder_283 mX12_352 rfl (by decide) (by decide) (Nat.le_of_ble_eq_true rfl) (Nat.le_refl _) (fun r283 hr283 pr283 => ?_)
                          refine zr_iadd (pc := 286) hV dX12_doOrder_286 ?_
                          refine zr_iload (pc := 287) hV dX12_doOrder_287 rfl ?_
                          refine zr_iast (pc := 289) hV dX12_doOrder_289 rfl (by decide) rfl (by omega) (fun σ289 eσ289 => ?_)
                          have hσ289 : zx_T σ289 := zx_ua15 eσ289 hσ_78 (by omega)
                          have hFσ289 : ∀ a i : Int, (a ≠ 15) → σ289 a i = σ a i := fun a i h => by rw [eσ289, zq_up_ne (fun q => h q.1)]; exact hFσ_78 a i h
                          show V 290 [some (ZR 0), some (ZI o), some (ZI bits), some (ZI x3_78), some (ZI ((18 * o) + (6 * x3_78))), some (ZI r120), some (ZI v0_165), some (ZI (zq_and r180 r184)), some (ZI (σ_78 6 ((18 * o) + (6 * x3_78))))] [] 41 σ289
                          refine zr_iinc (pc := 290) hV [some (ZR 0), some (ZI o), some (ZI bits), some (ZI (x3_78 + 1)), some (ZI ((18 * o) + (6 * x3_78))), some (ZI r120), some (ZI v0_165), some (ZI (zq_and r180 r184)), some (ZI (σ_78 6 ((18 * o) + (6 * x3_78))))] (x3_78 + 1) dX12_doOrder_290 rfl rfl (by decide) rfl rfl ?_
                          refine zr_goto (pc := 293) hV 78 dX12_doOrder_293 (by decide) ?_
                          refine zr_sub (pc := 78) hV [some (ZR 0), some (ZI o), some (ZI bits), some (ZI (x3_78 + 1)), none, none, none, none, none] (⟨rfl, rfl, rfl, rfl, trivial⟩) ?_
                          exact ih78 (x3_78 + 1) σ289 (by omega) hσ289 hFσ289 (by omega)
                        · show V 256 [some (ZR 0), some (ZI o), some (ZI bits), some (ZI x3_78), some (ZI ((18 * o) + (6 * x3_78))), some (ZI r120), some (ZI v0_165), some (ZI (zq_and r180 r184)), some (ZI (σ_78 6 ((18 * o) + (6 * x3_78))))] [] 41 σ_78
                          refine zr_aload_n (pc := 256) hV dX12_doOrder_256 rfl rfl ?_
                          refine zr_getR (pc := 257) hV 24 15 dX12_doOrder_257 fX12_62 rfl rfl rfl (by decide) (zx_g24 hσ_78) (by omega) ?_
                          refine zr_sipush (pc := 260) hV 265 dX12_doOrder_260 (by decide) ?_
                          refine zr_iload (pc := 263) hV dX12_doOrder_263 rfl ?_
                          refine zr_bipush (pc := 265) hV 64 dX12_doOrder_265 (by decide) ?_
                          refine zr_irem (pc := 267) hV dX12_doOrder_267 ⟨by decide, by decide⟩ (by omega) ?_
                          have t49 := zq_rem_c (x := zq_and r180 r184) 64 (by decide) (by omega)
                          refine zr_iast (pc := 268) hV dX12_doOrder_268 rfl (by decide) rfl (by omega) (fun σ268 eσ268 => ?_)
                          have hσ268 : zx_T σ268 := zx_ua15 eσ268 hσ_78 (by omega)
                          have hFσ268 : ∀ a i : Int, (a ≠ 15) → σ268 a i = σ a i := fun a i h => by rw [eσ268, zq_up_ne (fun q => h q.1)]; exact hFσ_78 a i h
                          refine zr_goto (pc := 269) hV 290 dX12_doOrder_269 (by decide) ?_
                          show V 290 [some (ZR 0), some (ZI o), some (ZI bits), some (ZI x3_78), some (ZI ((18 * o) + (6 * x3_78))), some (ZI r120), some (ZI v0_165), some (ZI (zq_and r180 r184)), some (ZI (σ_78 6 ((18 * o) + (6 * x3_78))))] [] 41 σ268
                          refine zr_iinc (pc := 290) hV [some (ZR 0), some (ZI o), some (ZI bits), some (ZI (x3_78 + 1)), some (ZI ((18 * o) + (6 * x3_78))), some (ZI r120), some (ZI v0_165), some (ZI (zq_and r180 r184)), some (ZI (σ_78 6 ((18 * o) + (6 * x3_78))))] (x3_78 + 1) dX12_doOrder_290 rfl rfl (by decide) rfl rfl ?_
                          refine zr_goto (pc := 293) hV 78 dX12_doOrder_293 (by decide) ?_
                          refine zr_sub (pc := 78) hV [some (ZR 0), some (ZI o), some (ZI bits), some (ZI (x3_78 + 1)), none, none, none, none, none] (⟨rfl, rfl, rfl, rfl, trivial⟩) ?_
                          exact ih78 (x3_78 + 1) σ268 (by omega) hσ268 hFσ268 (by omega)
                      · show V 229 [some (ZR 0), some (ZI o), some (ZI bits), some (ZI x3_78), some (ZI ((18 * o) + (6 * x3_78))), some (ZI r120), some (ZI v0_165), some (ZI (zq_and r180 r184)), some (ZI (σ_78 6 ((18 * o) + (6 * x3_78))))] [] 41 σ_78
                        refine zr_aload_n (pc := 229) hV dX12_doOrder_229 rfl rfl ?_
                        refine zr_getR (pc := 230) hV 24 15 dX12_doOrder_230 fX12_62 rfl rfl rfl (by decide) (zx_g24 hσ_78) (by omega) ?_
                        refine zr_sipush (pc := 233) hV 264 dX12_doOrder_233 (by decide) ?_
                        refine zr_iload (pc := 236) hV dX12_doOrder_236 rfl ?_
                        refine zr_if_eq (pc := 238) hV 245 dX12_doOrder_238 (by decide) (by omega) (fun c50 => ?_) (fun c50 => ?_)
                        · show V 245 [some (ZR 0), some (ZI o), some (ZI bits), some (ZI x3_78), some (ZI ((18 * o) + (6 * x3_78))), some (ZI r120), some (ZI v0_165), some (ZI (zq_and r180 r184)), some (ZI (σ_78 6 ((18 * o) + (6 * x3_78))))] [ZI 264, ZR 15] 41 σ_78
                          refine zr_iconst (pc := 245) hV 0 dX12_doOrder_245 rfl ?_
                          show V 246 [some (ZR 0), some (ZI o), some (ZI bits), some (ZI x3_78), some (ZI ((18 * o) + (6 * x3_78))), some (ZI r120), some (ZI v0_165), some (ZI (zq_and r180 r184)), some (ZI (σ_78 6 ((18 * o) + (6 * x3_78))))] [ZI 0, ZI 264, ZR 15] 41 σ_78
                          refine zr_iast (pc := 246) hV dX12_doOrder_246 rfl (by decide) rfl (by omega) (fun σ246 eσ246 => ?_)
                          have hσ246 : zx_T σ246 := zx_ua15 eσ246 hσ_78 (by omega)
                          have hFσ246 : ∀ a i : Int, (a ≠ 15) → σ246 a i = σ a i := fun a i h => by rw [eσ246, zq_up_ne (fun q => h q.1)]; exact hFσ_78 a i h
                          refine zr_goto (pc := 247) hV 290 dX12_doOrder_247 (by decide) ?_
                          show V 290 [some (ZR 0), some (ZI o), some (ZI bits), some (ZI x3_78), some (ZI ((18 * o) + (6 * x3_78))), some (ZI r120), some (ZI v0_165), some (ZI (zq_and r180 r184)), some (ZI (σ_78 6 ((18 * o) + (6 * x3_78))))] [] 41 σ246
                          refine zr_iinc (pc := 290) hV [some (ZR 0), some (ZI o), some (ZI bits), some (ZI (x3_78 + 1)), some (ZI ((18 * o) + (6 * x3_78))), some (ZI r120), some (ZI v0_165), some (ZI (zq_and r180 r184)), some (ZI (σ_78 6 ((18 * o) + (6 * x3_78))))] (x3_78 + 1) dX12_doOrder_290 rfl rfl (by decide) rfl rfl ?_
                          refine zr_goto (pc := 293) hV 78 dX12_doOrder_293 (by decide) ?_
                          refine zr_sub (pc := 78) hV [some (ZR 0), some (ZI o), some (ZI bits), some (ZI (x3_78 + 1)), none, none, none, none, none] (⟨rfl, rfl, rfl, rfl, trivial⟩) ?_
                          exact ih78 (x3_78 + 1) σ246 (by omega) hσ246 hFσ246 (by omega)
                        · show V 241 [some (ZR 0), some (ZI o), some (ZI bits), some (ZI x3_78), some (ZI ((18 * o) + (6 * x3_78))), some (ZI r120), some (ZI v0_165), some (ZI (zq_and r180 r184)), some (ZI (σ_78 6 ((18 * o) + (6 * x3_78))))] [ZI 264, ZR 15] 41 σ_78
                          refine zr_iconst (pc := 241) hV 1 dX12_doOrder_241 rfl ?_
                          refine zr_goto (pc := 242) hV 246 dX12_doOrder_242 (by decide) ?_
                          show V 246 [some (ZR 0), some (ZI o), some (ZI bits), some (ZI x3_78), some (ZI ((18 * o) + (6 * x3_78))), some (ZI r120), some (ZI v0_165), some (ZI (zq_and r180 r184)), some (ZI (σ_78 6 ((18 * o) + (6 * x3_78))))] [ZI 1, ZI 264, ZR 15] 41 σ_78
                          refine zr_iast (pc := 246) hV dX12_doOrder_246 rfl (by decide) rfl (by omega) (fun σ246 eσ246 => ?_)
                          have hσ246 : zx_T σ246 := zx_ua15 eσ246 hσ_78 (by omega)
                          have hFσ246 : ∀ a i : Int, (a ≠ 15) → σ246 a i = σ a i := fun a i h => by rw [eσ246, zq_up_ne (fun q => h q.1)]; exact hFσ_78 a i h
                          refine zr_goto (pc := 247) hV 290 dX12_doOrder_247 (by decide) ?_
                          show V 290 [some (ZR 0), some (ZI o), some (ZI bits), some (ZI x3_78), some (ZI ((18 * o) + (6 * x3_78))), some (ZI r120), some (ZI v0_165), some (ZI (zq_and r180 r184)), some (ZI (σ_78 6 ((18 * o) + (6 * x3_78))))] [] 41 σ246
                          refine zr_iinc (pc := 290) hV [some (ZR 0), some (ZI o), some (ZI bits), some (ZI (x3_78 + 1)), some (ZI ((18 * o) + (6 * x3_78))), some (ZI r120), some (ZI v0_165), some (ZI (zq_and r180 r184)), some (ZI (σ_78 6 ((18 * o) + (6 * x3_78))))] (x3_78 + 1) dX12_doOrder_290 rfl rfl (by decide) rfl rfl ?_
                          refine zr_goto (pc := 293) hV 78 dX12_doOrder_293 (by decide) ?_
                          refine zr_sub (pc := 78) hV [some (ZR 0), some (ZI o), some (ZI bits), some (ZI (x3_78 + 1)), none, none, none, none, none] (⟨rfl, rfl, rfl, rfl, trivial⟩) ?_
                          exact ih78 (x3_78 + 1) σ246 (by omega) hσ246 hFσ246 (by omega)
                    · show V 205 [some (ZR 0), some (ZI o), some (ZI bits), some (ZI x3_78), some (ZI ((18 * o) + (6 * x3_78))), some (ZI r120), some (ZI v0_165), some (ZI (zq_and r180 r184)), some (ZI (σ_78 6 ((18 * o) + (6 * x3_78))))] [] 41 σ_78
                      refine zr_aload_n (pc := 205) hV dX12_doOrder_205 rfl rfl ?_
                      refine zr_getR (pc := 206) hV 24 15 dX12_doOrder_206 fX12_62 rfl rfl rfl (by decide) (zx_g24 hσ_78) (by omega) ?_
                      refine zr_aload_n (pc := 209) hV dX12_doOrder_209 rfl rfl ?_
                      refine zr_iload_n (pc := 210) hV dX12_doOrder_210 rfl rfl ?_
                      refine zr_iload_n (pc := 211) hV dX12_doOrder_211 rfl rfl ?_
                      refine zr_iload (pc := 212) hV dX12_doOrder_212 rfl ?_
                      refine zr_callVp (pc := 214) hV [ZI o, ZI bits, ZI (σ_78 6 ((18 * o) + (6 * x3_78)))] (st := [ZR 15]) (c_X12_fieldOf (σ := σ_78) hσ_78 o bits (σ_78 6 ((18 * o) + (6 * x3_78))) (by omega) (by omega) (by omega) (zx_B_fr (fun i => hFσ_78 2 i (by omega)) (hFσ_78 0 2 (by omega)) q3)) dX12_doOrder_214 mX12_289 rfl (by decide) (by decide) (Nat.le_of_ble_eq_true rfl) (Nat.le_refl _) (fun r214 hr214 pr214 => ?_)
                      refine zr_iload (pc := 217) hV dX12_doOrder_217 rfl ?_
                      refine zr_iast (pc := 219) hV dX12_doOrder_219 rfl (by decide) rfl (by omega) (fun σ219 eσ219 => ?_)
                      have hσ219 : zx_T σ219 := zx_ua15 eσ219 hσ_78 (by omega)
                      have hFσ219 : ∀ a i : Int, (a ≠ 15) → σ219 a i = σ a i := fun a i h => by rw [eσ219, zq_up_ne (fun q => h q.1)]; exact hFσ_78 a i h
                      refine zr_goto (pc := 220) hV 290 dX12_doOrder_220 (by decide) ?_
                      show V 290 [some (ZR 0), some (ZI o), some (ZI bits), some (ZI x3_78), some (ZI ((18 * o) + (6 * x3_78))), some (ZI r120), some (ZI v0_165), some (ZI (zq_and r180 r184)), some (ZI (σ_78 6 ((18 * o) + (6 * x3_78))))] [] 41 σ219
                      refine zr_iinc (pc := 290) hV [some (ZR 0), some (ZI o), some (ZI bits), some (ZI (x3_78 + 1)), some (ZI ((18 * o) + (6 * x3_78))), some (ZI r120), some (ZI v0_165), some (ZI (zq_and r180 r184)), some (ZI (σ_78 6 ((18 * o) + (6 * x3_78))))] (x3_78 + 1) dX12_doOrder_290 rfl rfl (by decide) rfl rfl ?_
                      refine zr_goto (pc := 293) hV 78 dX12_doOrder_293 (by decide) ?_
                      refine zr_sub (pc := 78) hV [some (ZR 0), some (ZI o), some (ZI bits), some (ZI (x3_78 + 1)), none, none, none, none, none] (⟨rfl, rfl, rfl, rfl, trivial⟩) ?_
                      exact ih78 (x3_78 + 1) σ219 (by omega) hσ219 hFσ219 (by omega)
                  refine zr_if_le (pc := 134) hV 164 dX12_doOrder_134 (by decide) (by omega) (fun c51 => ?_) (fun c51 => ?_)
                  · show V 164 [some (ZR 0), some (ZI o), some (ZI bits), some (ZI x3_78), some (ZI ((18 * o) + (6 * x3_78))), some (ZI r120), none, none, none] [] 41 σ_78
                    refine zr_iconst (pc := 164) hV 0 dX12_doOrder_164 rfl ?_
                    exact J165 0 (by omega)
                  · show V 137 [some (ZR 0), some (ZI o), some (ZI bits), some (ZI x3_78), some (ZI ((18 * o) + (6 * x3_78))), some (ZI r120), none, none, none] [] 41 σ_78
                    refine zr_aload_n (pc := 137) hV dX12_doOrder_137 rfl rfl ?_
                    refine zr_iload_n (pc := 138) hV dX12_doOrder_138 rfl rfl ?_
                    refine zr_iload_n (pc := 139) hV dX12_doOrder_139 rfl rfl ?_
                    refine zr_aload_n (pc := 140) hV dX12_doOrder_140 rfl rfl ?_
                    refine zr_getR (pc := 141) hV 9 6 dX12_doOrder_141 fX12_35 rfl rfl rfl (by decide) (zx_g9 hσ_78) (by omega) ?_
                    refine zr_iload (pc := 144) hV dX12_doOrder_144 rfl ?_
                    refine zr_iconst (pc := 146) hV 4 dX12_doOrder_146 rfl ?_
                    refine zr_iadd (pc := 147) hV dX12_doOrder_147 ?_
                    refine zr_iald (pc := 148) hV dX12_doOrder_148 rfl (by decide) rfl (by omega) ?_
                    have t52 := zx_ac4 hσ_78 (((18 * o) + (6 * x3_78)) + 4) (by omega)
                    have t53 : σ_78 6 (((18 * o) + (6 * x3_78)) + 4) = σ 6 (((18 * o) + (6 * x3_78)) + 4) := hFσ_78 _ _ (by omega)
                    have za := q2 x3_78 (by omega) (by omega)
                    refine zr_aload_n (pc := 149) hV dX12_doOrder_149 rfl rfl ?_
                    refine zr_getR (pc := 150) hV 9 6 dX12_doOrder_150 fX12_35 rfl rfl rfl (by decide) (zx_g9 hσ_78) (by omega) ?_
                    refine zr_iload (pc := 153) hV dX12_doOrder_153 rfl ?_
                    refine zr_iconst (pc := 155) hV 5 dX12_doOrder_155 rfl ?_
                    refine zr_iadd (pc := 156) hV dX12_doOrder_156 ?_
                    refine zr_iald (pc := 157) hV dX12_doOrder_157 rfl (by decide) rfl (by omega) ?_
                    have t54 := zx_ac hσ_78 (((18 * o) + (6 * x3_78)) + 5)
                    have t55 : σ_78 6 (((18 * o) + (6 * x3_78)) + 5) = σ 6 (((18 * o) + (6 * x3_78)) + 5) := hFσ_78 _ _ (by omega)
                    refine zr_callVp (pc := 158) hV [ZI o, ZI bits, ZI (σ_78 6 (((18 * o) + (6 * x3_78)) + 4)), ZI (σ_78 6 (((18 * o) + (6 * x3_78)) + 5))] (st := []) (c_X12_valueOf (σ := σ_78) hσ_78 o bits (σ_78 6 (((18 * o) + (6 * x3_78)) + 4)) (σ_78 6 (((18 * o) + (6 * x3_78)) + 5)) (by omega) (by omega) (by omega) (by omega) (zx_B_fr (fun i => hFσ_78 2 i (by omega)) (hFσ_78 0 2 (by omega)) q3)) dX12_doOrder_158 mX12_355 rfl (by decide) (by decide) (Nat.le_of_ble_eq_true rfl) (Nat.le_refl _) (fun r158 hr158 pr158 => ?_)
                    refine zr_goto (pc := 161) hV 165 dX12_doOrder_161 (by decide) ?_
                    exact J165 r158 (by omega)
            exact L78 (3 - (0 : Int) + 1 : Int).toNat 0 σ (by omega) hσ (fun a i _ => rfl) (by omega)
          · exfalso; omega
        · show V 67 [some (ZR 0), some (ZI o), some (ZI bits), some (ZI v0_47), none, none, none, none, none] [ZI 0] 41 σ
          refine zr_iconst (pc := 67) hV 1 dX12_doOrder_67 rfl ?_
          refine zr_goto (pc := 68) hV 72 dX12_doOrder_68 (by decide) ?_
          show V 72 [some (ZR 0), some (ZI o), some (ZI bits), some (ZI v0_47), none, none, none, none, none] [ZI 1, ZI 0] 41 σ
          refine zr_icmp_eq (pc := 72) hV 76 dX12_doOrder_72 (by decide) ⟨by decide, by decide⟩ ⟨by decide, by decide⟩ (fun c56 => ?_) (fun c56 => ?_)
          · exfalso; omega
          · show V 75 [some (ZR 0), some (ZI o), some (ZI bits), some (ZI v0_47), none, none, none, none, none] [] 41 σ
            exact zr_vret (pc := 75) hV dX12_doOrder_75 rfl rfl ⟨rfl, hσ, (fun a i _ => rfl), trivial⟩
      · show V 52 [some (ZR 0), some (ZI o), some (ZI bits), some (ZI v0_47), none, none, none, none, none] [] 41 σ
        refine zr_iconst (pc := 52) hV 1 dX12_doOrder_52 rfl ?_
        refine zr_goto (pc := 53) hV 57 dX12_doOrder_53 (by decide) ?_
        show V 57 [some (ZR 0), some (ZI o), some (ZI bits), some (ZI v0_47), none, none, none, none, none] [ZI 1] 41 σ
        refine zr_aload_n (pc := 57) hV dX12_doOrder_57 rfl rfl ?_
        refine zr_getR (pc := 58) hV 6 3 dX12_doOrder_58 fX12_26 rfl rfl rfl (by decide) (zx_g6 hσ) (by omega) ?_
        refine zr_iload_n (pc := 61) hV dX12_doOrder_61 rfl rfl ?_
        refine zr_iald (pc := 62) hV dX12_doOrder_62 rfl (by decide) rfl (by omega) ?_
        have t57 := zx_ga3 hσ o
        refine zr_iconst (pc := 63) hV 1 dX12_doOrder_63 rfl ?_
        refine zr_icmp_ne (pc := 64) hV 71 dX12_doOrder_64 (by decide) (by omega) ⟨by decide, by decide⟩ (fun c58 => ?_) (fun c58 => ?_)
        · show V 71 [some (ZR 0), some (ZI o), some (ZI bits), some (ZI v0_47), none, none, none, none, none] [ZI 1] 41 σ
          refine zr_iconst (pc := 71) hV 0 dX12_doOrder_71 rfl ?_
          show V 72 [some (ZR 0), some (ZI o), some (ZI bits), some (ZI v0_47), none, none, none, none, none] [ZI 0, ZI 1] 41 σ
          refine zr_icmp_eq (pc := 72) hV 76 dX12_doOrder_72 (by decide) ⟨by decide, by decide⟩ ⟨by decide, by decide⟩ (fun c59 => ?_) (fun c59 => ?_)
          · exfalso; omega
          · show V 75 [some (ZR 0), some (ZI o), some (ZI bits), some (ZI v0_47), none, none, none, none, none] [] 41 σ
            exact zr_vret (pc := 75) hV dX12_doOrder_75 rfl rfl ⟨rfl, hσ, (fun a i _ => rfl), trivial⟩
        · show V 67 [some (ZR 0), some (ZI o), some (ZI bits), some (ZI v0_47), none, none, none, none, none] [ZI 1] 41 σ
          refine zr_iconst (pc := 67) hV 1 dX12_doOrder_67 rfl ?_
          refine zr_goto (pc := 68) hV 72 dX12_doOrder_68 (by decide) ?_
          show V 72 [some (ZR 0), some (ZI o), some (ZI bits), some (ZI v0_47), none, none, none, none, none] [ZI 1, ZI 1] 41 σ
          refine zr_icmp_eq (pc := 72) hV 76 dX12_doOrder_72 (by decide) ⟨by decide, by decide⟩ ⟨by decide, by decide⟩ (fun c60 => ?_) (fun c60 => ?_)
          · show V 76 [some (ZR 0), some (ZI o), some (ZI bits), some (ZI v0_47), none, none, none, none, none] [] 41 σ
            refine zr_iconst (pc := 76) hV 0 dX12_doOrder_76 rfl ?_
            refine zr_istore_n (pc := 77) hV [some (ZR 0), some (ZI o), some (ZI bits), some (ZI 0), none, none, none, none, none] dX12_doOrder_77 rfl (by decide) rfl rfl ?_
            have L78 : ∀ (fuel : Nat) (x3_78 : Int) (σ_78 : zq_S), (0 ≤ x3_78 ∧ x3_78 ≤ 3) → (zx_T σ_78) → (∀ a i : Int, (a ≠ 15) → σ_78 a i = σ a i) → 3 - x3_78 < (fuel : Int) → V 78 [some (ZR 0), some (ZI o), some (ZI bits), some (ZI x3_78), none, none, none, none, none] [] 41 σ_78 := by
              intro fuel
              induction fuel with
              | zero =>
                intro x3_78 σ_78 hx3_78 hσ_78 hFσ_78 hm78
                exfalso; omega
              | succ fuel ih =>
                intro x3_78 σ_78 hx3_78 hσ_78 hFσ_78 hm78
                have ih78 := ih
                show V 78 [some (ZR 0), some (ZI o), some (ZI bits), some (ZI x3_78), none, none, none, none, none] [] 41 σ_78
                refine zr_iload_n (pc := 78) hV dX12_doOrder_78 rfl rfl ?_
                refine zr_aload_n (pc := 79) hV dX12_doOrder_79 rfl rfl ?_
                refine zr_getR (pc := 80) hV 8 5 dX12_doOrder_80 fX12_32 rfl rfl rfl (by decide) (zx_g8 hσ_78) (by omega) ?_
                refine zr_iload_n (pc := 83) hV dX12_doOrder_83 rfl rfl ?_
                refine zr_iald (pc := 84) hV dX12_doOrder_84 rfl (by decide) rfl (by omega) ?_
                have t61 := zx_ga5 hσ_78 o
                have t62 : σ_78 5 o = σ 5 o := hFσ_78 _ _ (by omega)
                refine zr_icmp_ge (pc := 85) hV 296 dX12_doOrder_85 (by decide) (by omega) (by omega) (fun c63 => ?_) (fun c63 => ?_)
                · show V 296 [some (ZR 0), some (ZI o), some (ZI bits), some (ZI x3_78), none, none, none, none, none] [] 41 σ_78
                  exact zr_vret (pc := 296) hV dX12_doOrder_296 rfl rfl ⟨rfl, hσ_78, hFσ_78, trivial⟩
                · show V 88 [some (ZR 0), some (ZI o), some (ZI bits), some (ZI x3_78), none, none, none, none, none] [] 41 σ_78
                  refine zr_bipush (pc := 88) hV 18 dX12_doOrder_88 (by decide) ?_
                  refine zr_iload_n (pc := 90) hV dX12_doOrder_90 rfl rfl ?_
                  refine zr_imul (pc := 91) hV dX12_doOrder_91 ?_
                  refine zr_bipush (pc := 92) hV 6 dX12_doOrder_92 (by decide) ?_
                  refine zr_iload_n (pc := 94) hV dX12_doOrder_94 rfl rfl ?_
                  refine zr_imul (pc := 95) hV dX12_doOrder_95 ?_
                  refine zr_iadd (pc := 96) hV dX12_doOrder_96 ?_
                  refine zr_istore (pc := 97) hV [some (ZR 0), some (ZI o), some (ZI bits), some (ZI x3_78), some (ZI ((18 * o) + (6 * x3_78))), none, none, none, none] dX12_doOrder_97 (by decide) rfl rfl ?_
                  refine zr_aload_n (pc := 99) hV dX12_doOrder_99 rfl rfl ?_
                  refine zr_iload_n (pc := 100) hV dX12_doOrder_100 rfl rfl ?_
                  refine zr_iload_n (pc := 101) hV dX12_doOrder_101 rfl rfl ?_
                  refine zr_aload_n (pc := 102) hV dX12_doOrder_102 rfl rfl ?_
                  refine zr_getR (pc := 103) hV 9 6 dX12_doOrder_103 fX12_35 rfl rfl rfl (by decide) (zx_g9 hσ_78) (by omega) ?_
                  refine zr_iload (pc := 106) hV dX12_doOrder_106 rfl ?_
                  refine zr_iconst (pc := 108) hV 1 dX12_doOrder_108 rfl ?_
                  refine zr_iadd (pc := 109) hV dX12_doOrder_109 ?_
                  refine zr_iald (pc := 110) hV dX12_doOrder_110 rfl (by decide) rfl (by omega) ?_
                  have t64 := zx_ac1 hσ_78 (((18 * o) + (6 * x3_78)) + 1) (by omega)
                  have t65 : σ_78 6 (((18 * o) + (6 * x3_78)) + 1) = σ 6 (((18 * o) + (6 * x3_78)) + 1) := hFσ_78 _ _ (by omega)
                  refine zr_aload_n (pc := 111) hV dX12_doOrder_111 rfl rfl ?_
                  refine zr_getR (pc := 112) hV 9 6 dX12_doOrder_112 fX12_35 rfl rfl rfl (by decide) (zx_g9 hσ_78) (by omega) ?_
                  refine zr_iload (pc := 115) hV dX12_doOrder_115 rfl ?_
                  refine zr_iconst (pc := 117) hV 2 dX12_doOrder_117 rfl ?_
                  refine zr_iadd (pc := 118) hV dX12_doOrder_118 ?_
                  refine zr_iald (pc := 119) hV dX12_doOrder_119 rfl (by decide) rfl (by omega) ?_
                  have t66 := zx_ac hσ_78 (((18 * o) + (6 * x3_78)) + 2)
                  have t67 : σ_78 6 (((18 * o) + (6 * x3_78)) + 2) = σ 6 (((18 * o) + (6 * x3_78)) + 2) := hFσ_78 _ _ (by omega)
                  refine zr_callVp (pc := 120) hV [ZI o, ZI bits, ZI (σ_78 6 (((18 * o) + (6 * x3_78)) + 1)), ZI (σ_78 6 (((18 * o) + (6 * x3_78)) + 2))] (st := []) (c_X12_valueOf (σ := σ_78) hσ_78 o bits (σ_78 6 (((18 * o) + (6 * x3_78)) + 1)) (σ_78 6 (((18 * o) + (6 * x3_78)) + 2)) (by omega) (by omega) (by omega) (by omega) (zx_B_fr (fun i => hFσ_78 2 i (by omega)) (hFσ_78 0 2 (by omega)) q3)) dX12_doOrder_120 mX12_355 rfl (by decide) (by decide) (Nat.le_of_ble_eq_true rfl) (Nat.le_refl _) (fun r120 hr120 pr120 => ?_)
                  refine zr_istore (pc := 123) hV [some (ZR 0), some (ZI o), some (ZI bits), some (ZI x3_78), some (ZI ((18 * o) + (6 * x3_78))), some (ZI r120), none, none, none] dX12_doOrder_123 (by decide) rfl rfl ?_
                  refine zr_aload_n (pc := 125) hV dX12_doOrder_125 rfl rfl ?_
                  refine zr_getR (pc := 126) hV 9 6 dX12_doOrder_126 fX12_35 rfl rfl rfl (by decide) (zx_g9 hσ_78) (by omega) ?_
                  refine zr_iload (pc := 129) hV dX12_doOrder_129 rfl ?_
                  refine zr_iconst (pc := 131) hV 3 dX12_doOrder_131 rfl ?_
                  refine zr_iadd (pc := 132) hV dX12_doOrder_132 ?_
                  refine zr_iald (pc := 133) hV dX12_doOrder_133 rfl (by decide) rfl (by omega) ?_
                  have t68 := zx_ac3 hσ_78 (((18 * o) + (6 * x3_78)) + 3) (by omega)
                  have t69 : σ_78 6 (((18 * o) + (6 * x3_78)) + 3) = σ 6 (((18 * o) + (6 * x3_78)) + 3) := hFσ_78 _ _ (by omega)
                  have J165 : ∀ (v0_165 : Int), (0 ≤ v0_165 ∧ v0_165 ≤ 255) → V 165 [some (ZR 0), some (ZI o), some (ZI bits), some (ZI x3_78), some (ZI ((18 * o) + (6 * x3_78))), some (ZI r120), none, none, none] [ZI v0_165] 41 σ_78 := by
                    intro v0_165 hv0_165
                    show V 165 [some (ZR 0), some (ZI o), some (ZI bits), some (ZI x3_78), some (ZI ((18 * o) + (6 * x3_78))), some (ZI r120), none, none, none] [ZI v0_165] 41 σ_78
                    refine zr_istore (pc := 165) hV [some (ZR 0), some (ZI o), some (ZI bits), some (ZI x3_78), some (ZI ((18 * o) + (6 * x3_78))), some (ZI r120), some (ZI v0_165), none, none] dX12_doOrder_165 (by decide) rfl rfl ?_
                    refine zr_aload_n (pc := 167) hV dX12_doOrder_167 rfl rfl ?_
                    refine zr_getR (pc := 168) hV 9 6 dX12_doOrder_168 fX12_35 rfl rfl rfl (by decide) (zx_g9 hσ_78) (by omega) ?_
                    refine zr_iload (pc := 171) hV dX12_doOrder_171 rfl ?_
                    refine zr_iconst (pc := 173) hV 3 dX12_doOrder_173 rfl ?_
                    refine zr_iadd (pc := 174) hV dX12_doOrder_174 ?_
                    refine zr_iald (pc := 175) hV dX12_doOrder_175 rfl (by decide) rfl (by omega) ?_
                    have t70 := zx_ac3 hσ_78 (((18 * o) + (6 * x3_78)) + 3) (by omega)
                    have t71 : σ_78 6 (((18 * o) + (6 * x3_78)) + 3) = σ 6 (((18 * o) + (6 * x3_78)) + 3) := hFσ_78 _ _ (by omega)
                    refine zr_iload (pc := 176) hV dX12_doOrder_176 rfl ?_
                    refine zr_iload (pc := 178) hV dX12_doOrder_178 rfl ?_
                    refine zr_callSp (pc := 180) hV [ZI (σ_78 6 (((18 * o) + (6 * x3_78)) + 3)), ZI r120, ZI v0_165] (st := []) (c_X12_reckon (σ := σ_78) (σ_78 6 (((18 * o) + (6 * x3_78)) + 3)) r120 v0_165 (by omega) (by omega) (by omega)) dX12_doOrder_180 mX12_304 (by decide) (Nat.le_of_ble_eq_true rfl) (Nat.le_refl _) (fun r180 hr180 pr180 => ?_)
                    refine zr_aload_n (pc := 183) hV dX12_doOrder_183 rfl rfl ?_
                    refine zr_callVp (pc := 184) hV [] (st := [ZI r180]) (c_X12_mask (σ := σ_78) hσ_78 ) dX12_doOrder_184 mX12_346 rfl (by decide) (by decide) (Nat.le_of_ble_eq_true rfl) (Nat.le_refl _) (fun r184 hr184 pr184 => ?_)
                    refine zr_iand (pc := 187) hV dX12_doOrder_187 ?_
                    have t72 := zq_and_nnR (x := r180) (y := r184) (by omega)
                    refine zr_istore (pc := 188) hV [some (ZR 0), some (ZI o), some (ZI bits), some (ZI x3_78), some (ZI ((18 * o) + (6 * x3_78))), some (ZI r120), some (ZI v0_165), some (ZI (zq_and r180 r184)), none] dX12_doOrder_188 (by decide) rfl rfl ?_
                    refine zr_aload_n (pc := 190) hV dX12_doOrder_190 rfl rfl ?_
                    refine zr_getR (pc := 191) hV 9 6 dX12_doOrder_191 fX12_35 rfl rfl rfl (by decide) (zx_g9 hσ_78) (by omega) ?_
                    refine zr_iload (pc := 194) hV dX12_doOrder_194 rfl ?_
                    refine zr_iald (pc := 196) hV dX12_doOrder_196 rfl (by decide) rfl (by omega) ?_
                    have t73 := zx_ac0 hσ_78 ((18 * o) + (6 * x3_78)) (by omega)
                    have t74 : σ_78 6 ((18 * o) + (6 * x3_78)) = σ 6 ((18 * o) + (6 * x3_78)) := hFσ_78 _ _ (by omega)
                    refine zr_istore (pc := 197) hV [some (ZR 0), some (ZI o), some (ZI bits), some (ZI x3_78), some (ZI ((18 * o) + (6 * x3_78))), some (ZI r120), some (ZI v0_165), some (ZI (zq_and r180 r184)), some (ZI (σ_78 6 ((18 * o) + (6 * x3_78))))] dX12_doOrder_197 (by decide) rfl rfl ?_
                    refine zr_iload (pc := 199) hV dX12_doOrder_199 rfl ?_
                    refine zr_iconst (pc := 201) hV 3 dX12_doOrder_201 rfl ?_
                    refine zr_icmp_ge (pc := 202) hV 223 dX12_doOrder_202 (by decide) (by omega) ⟨by decide, by decide⟩ (fun c75 => ?_) (fun c75 => ?_)
                    · show V 223 [some (ZR 0), some (ZI o), some (ZI bits), some (ZI x3_78), some (ZI ((18 * o) + (6 * x3_78))), some (ZI r120), some (ZI v0_165), some (ZI (zq_and r180 r184)), some (ZI (σ_78 6 ((18 * o) + (6 * x3_78))))] [] 41 σ_78
                      refine zr_iload (pc := 223) hV dX12_doOrder_223 rfl ?_
                      refine zr_iconst (pc := 225) hV 4 dX12_doOrder_225 rfl ?_
                      refine zr_icmp_ne (pc := 226) hV 250 dX12_doOrder_226 (by decide) (by omega) ⟨by decide, by decide⟩ (fun c76 => ?_) (fun c76 => ?_)
                      · show V 250 [some (ZR 0), some (ZI o), some (ZI bits), some (ZI x3_78), some (ZI ((18 * o) + (6 * x3_78))), some (ZI r120), some (ZI v0_165), some (ZI (zq_and r180 r184)), some (ZI (σ_78 6 ((18 * o) + (6 * x3_78))))] [] 41 σ_78
                        refine zr_iload (pc := 250) hV dX12_doOrder_250 rfl ?_
                        refine zr_iconst (pc := 252) hV 5 dX12_doOrder_252 rfl ?_
                        refine zr_icmp_ne (pc := 253) hV 272 dX12_doOrder_253 (by decide) (by omega) ⟨by decide, by decide⟩ (fun c77 => ?_) (fun c77 => ?_)
                        · show V 272 [some (ZR 0), some (ZI o), some (ZI bits), some (ZI x3_78), some (ZI ((18 * o) + (6 * x3_78))), some (ZI r120), some (ZI v0_165), some (ZI (zq_and r180 r184)), some (ZI (σ_78 6 ((18 * o) + (6 * x3_78))))] [] 41 σ_78
                          refine zr_aload_n (pc := 272) hV dX12_doOrder_272 rfl rfl ?_
                          refine zr_getR (pc := 273) hV 24 15 dX12_doOrder_273 fX12_62 rfl rfl rfl (by decide) (zx_g24 hσ_78) (by omega) ?_
                          refine zr_bipush (pc := 276) hV 8 dX12_doOrder_276 (by decide) ?_
                          refine zr_aload_n (pc := 278) hV dX12_doOrder_278 rfl rfl ?_
                          refine zr_iload_n (pc := 279) hV dX12_doOrder_279 rfl rfl ?_
                          refine zr_iload_n (pc := 280) hV dX12_doOrder_280 rfl rfl ?_
                          refine zr_iload (pc := 281) hV dX12_doOrder_281 rfl ?_
                          refine zr_callVp (pc := 283) hV [ZI o, ZI bits, ZI (σ_78 6 ((18 * o) + (6 * x3_78)))] (st := [ZI 8, ZR 15]) (c_X12_addressOf (σ := σ_78) hσ_78 o bits (σ_78 6 ((18 * o) + (6 * x3_78))) (by omega) (by omega) (by omega) (zx_B_fr (fun i => hFσ_78 2 i (by omega)) (hFσ_78 0 2 (by omega)) q3)) dX12_doOrder_283 mX12_352 rfl (by decide) (by decide) (Nat.le_of_ble_eq_true rfl) (Nat.le_refl _) (fun r283 hr283 pr283 => ?_)
                          refine zr_iadd (pc := 286) hV dX12_doOrder_286 ?_
                          refine zr_iload (pc := 287) hV dX12_doOrder_287 rfl ?_
                          refine zr_iast (pc := 289) hV dX12_doOrder_289 rfl (by decide) rfl (by omega) (fun σ289 eσ289 => ?_)
                          have hσ289 : zx_T σ289 := zx_ua15 eσ289 hσ_78 (by omega)
                          have hFσ289 : ∀ a i : Int, (a ≠ 15) → σ289 a i = σ a i := fun a i h => by rw [eσ289, zq_up_ne (fun q => h q.1)]; exact hFσ_78 a i h
                          show V 290 [some (ZR 0), some (ZI o), some (ZI bits), some (ZI x3_78), some (ZI ((18 * o) + (6 * x3_78))), some (ZI r120), some (ZI v0_165), some (ZI (zq_and r180 r184)), some (ZI (σ_78 6 ((18 * o) + (6 * x3_78))))] [] 41 σ289
                          refine zr_iinc (pc := 290) hV [some (ZR 0), some (ZI o), some (ZI bits), some (ZI (x3_78 + 1)), some (ZI ((18 * o) + (6 * x3_78))), some (ZI r120), some (ZI v0_165), some (ZI (zq_and r180 r184)), some (ZI (σ_78 6 ((18 * o) + (6 * x3_78))))] (x3_78 + 1) dX12_doOrder_290 rfl rfl (by decide) rfl rfl ?_
                          refine zr_goto (pc := 293) hV 78 dX12_doOrder_293 (by decide) ?_
                          refine zr_sub (pc := 78) hV [some (ZR 0), some (ZI o), some (ZI bits), some (ZI (x3_78 + 1)), none, none, none, none, none] (⟨rfl, rfl, rfl, rfl, trivial⟩) ?_
                          exact ih78 (x3_78 + 1) σ289 (by omega) hσ289 hFσ289 (by omega)
                        · show V 256 [some (ZR 0), some (ZI o), some (ZI bits), some (ZI x3_78), some (ZI ((18 * o) + (6 * x3_78))), some (ZI r120), some (ZI v0_165), some (ZI (zq_and r180 r184)), some (ZI (σ_78 6 ((18 * o) + (6 * x3_78))))] [] 41 σ_78
                          refine zr_aload_n (pc := 256) hV dX12_doOrder_256 rfl rfl ?_
                          refine zr_getR (pc := 257) hV 24 15 dX12_doOrder_257 fX12_62 rfl rfl rfl (by decide) (zx_g24 hσ_78) (by omega) ?_
                          refine zr_sipush (pc := 260) hV 265 dX12_doOrder_260 (by decide) ?_
                          refine zr_iload (pc := 263) hV dX12_doOrder_263 rfl ?_
                          refine zr_bipush (pc := 265) hV 64 dX12_doOrder_265 (by decide) ?_
                          refine zr_irem (pc := 267) hV dX12_doOrder_267 ⟨by decide, by decide⟩ (by omega) ?_
                          have t78 := zq_rem_c (x := zq_and r180 r184) 64 (by decide) (by omega)
                          refine zr_iast (pc := 268) hV dX12_doOrder_268 rfl (by decide) rfl (by omega) (fun σ268 eσ268 => ?_)
                          have hσ268 : zx_T σ268 := zx_ua15 eσ268 hσ_78 (by omega)
                          have hFσ268 : ∀ a i : Int, (a ≠ 15) → σ268 a i = σ a i := fun a i h => by rw [eσ268, zq_up_ne (fun q => h q.1)]; exact hFσ_78 a i h
                          refine zr_goto (pc := 269) hV 290 dX12_doOrder_269 (by decide) ?_
                          show V 290 [some (ZR 0), some (ZI o), some (ZI bits), some (ZI x3_78), some (ZI ((18 * o) + (6 * x3_78))), some (ZI r120), some (ZI v0_165), some (ZI (zq_and r180 r184)), some (ZI (σ_78 6 ((18 * o) + (6 * x3_78))))] [] 41 σ268
                          refine zr_iinc (pc := 290) hV [some (ZR 0), some (ZI o), some (ZI bits), some (ZI (x3_78 + 1)), some (ZI ((18 * o) + (6 * x3_78))), some (ZI r120), some (ZI v0_165), some (ZI (zq_and r180 r184)), some (ZI (σ_78 6 ((18 * o) + (6 * x3_78))))] (x3_78 + 1) dX12_doOrder_290 rfl rfl (by decide) rfl rfl ?_
                          refine zr_goto (pc := 293) hV 78 dX12_doOrder_293 (by decide) ?_
                          refine zr_sub (pc := 78) hV [some (ZR 0), some (ZI o), some (ZI bits), some (ZI (x3_78 + 1)), none, none, none, none, none] (⟨rfl, rfl, rfl, rfl, trivial⟩) ?_
                          exact ih78 (x3_78 + 1) σ268 (by omega) hσ268 hFσ268 (by omega)
                      · show V 229 [some (ZR 0), some (ZI o), some (ZI bits), some (ZI x3_78), some (ZI ((18 * o) + (6 * x3_78))), some (ZI r120), some (ZI v0_165), some (ZI (zq_and r180 r184)), some (ZI (σ_78 6 ((18 * o) + (6 * x3_78))))] [] 41 σ_78
                        refine zr_aload_n (pc := 229) hV dX12_doOrder_229 rfl rfl ?_
                        refine zr_getR (pc := 230) hV 24 15 dX12_doOrder_230 fX12_62 rfl rfl rfl (by decide) (zx_g24 hσ_78) (by omega) ?_
                        refine zr_sipush (pc := 233) hV 264 dX12_doOrder_233 (by decide) ?_
                        refine zr_iload (pc := 236) hV dX12_doOrder_236 rfl ?_
                        refine zr_if_eq (pc := 238) hV 245 dX12_doOrder_238 (by decide) (by omega) (fun c79 => ?_) (fun c79 => ?_)
                        · show V 245 [some (ZR 0), some (ZI o), some (ZI bits), some (ZI x3_78), some (ZI ((18 * o) + (6 * x3_78))), some (ZI r120), some (ZI v0_165), some (ZI (zq_and r180 r184)), some (ZI (σ_78 6 ((18 * o) + (6 * x3_78))))] [ZI 264, ZR 15] 41 σ_78
                          refine zr_iconst (pc := 245) hV 0 dX12_doOrder_245 rfl ?_
                          show V 246 [some (ZR 0), some (ZI o), some (ZI bits), some (ZI x3_78), some (ZI ((18 * o) + (6 * x3_78))), some (ZI r120), some (ZI v0_165), some (ZI (zq_and r180 r184)), some (ZI (σ_78 6 ((18 * o) + (6 * x3_78))))] [ZI 0, ZI 264, ZR 15] 41 σ_78
                          refine zr_iast (pc := 246) hV dX12_doOrder_246 rfl (by decide) rfl (by omega) (fun σ246 eσ246 => ?_)
                          have hσ246 : zx_T σ246 := zx_ua15 eσ246 hσ_78 (by omega)
                          have hFσ246 : ∀ a i : Int, (a ≠ 15) → σ246 a i = σ a i := fun a i h => by rw [eσ246, zq_up_ne (fun q => h q.1)]; exact hFσ_78 a i h
                          refine zr_goto (pc := 247) hV 290 dX12_doOrder_247 (by decide) ?_
                          show V 290 [some (ZR 0), some (ZI o), some (ZI bits), some (ZI x3_78), some (ZI ((18 * o) + (6 * x3_78))), some (ZI r120), some (ZI v0_165), some (ZI (zq_and r180 r184)), some (ZI (σ_78 6 ((18 * o) + (6 * x3_78))))] [] 41 σ246
                          refine zr_iinc (pc := 290) hV [some (ZR 0), some (ZI o), some (ZI bits), some (ZI (x3_78 + 1)), some (ZI ((18 * o) + (6 * x3_78))), some (ZI r120), some (ZI v0_165), some (ZI (zq_and r180 r184)), some (ZI (σ_78 6 ((18 * o) + (6 * x3_78))))] (x3_78 + 1) dX12_doOrder_290 rfl rfl (by decide) rfl rfl ?_
                          refine zr_goto (pc := 293) hV 78 dX12_doOrder_293 (by decide) ?_
                          refine zr_sub (pc := 78) hV [some (ZR 0), some (ZI o), some (ZI bits), some (ZI (x3_78 + 1)), none, none, none, none, none] (⟨rfl, rfl, rfl, rfl, trivial⟩) ?_
                          exact ih78 (x3_78 + 1) σ246 (by omega) hσ246 hFσ246 (by omega)
                        · show V 241 [some (ZR 0), some (ZI o), some (ZI bits), some (ZI x3_78), some (ZI ((18 * o) + (6 * x3_78))), some (ZI r120), some (ZI v0_165), some (ZI (zq_and r180 r184)), some (ZI (σ_78 6 ((18 * o) + (6 * x3_78))))] [ZI 264, ZR 15] 41 σ_78
                          refine zr_iconst (pc := 241) hV 1 dX12_doOrder_241 rfl ?_
                          refine zr_goto (pc := 242) hV 246 dX12_doOrder_242 (by decide) ?_
                          show V 246 [some (ZR 0), some (ZI o), some (ZI bits), some (ZI x3_78), some (ZI ((18 * o) + (6 * x3_78))), some (ZI r120), some (ZI v0_165), some (ZI (zq_and r180 r184)), some (ZI (σ_78 6 ((18 * o) + (6 * x3_78))))] [ZI 1, ZI 264, ZR 15] 41 σ_78
                          refine zr_iast (pc := 246) hV dX12_doOrder_246 rfl (by decide) rfl (by omega) (fun σ246 eσ246 => ?_)
                          have hσ246 : zx_T σ246 := zx_ua15 eσ246 hσ_78 (by omega)
                          have hFσ246 : ∀ a i : Int, (a ≠ 15) → σ246 a i = σ a i := fun a i h => by rw [eσ246, zq_up_ne (fun q => h q.1)]; exact hFσ_78 a i h
                          refine zr_goto (pc := 247) hV 290 dX12_doOrder_247 (by decide) ?_
                          show V 290 [some (ZR 0), some (ZI o), some (ZI bits), some (ZI x3_78), some (ZI ((18 * o) + (6 * x3_78))), some (ZI r120), some (ZI v0_165), some (ZI (zq_and r180 r184)), some (ZI (σ_78 6 ((18 * o) + (6 * x3_78))))] [] 41 σ246
                          refine zr_iinc (pc := 290) hV [some (ZR 0), some (ZI o), some (ZI bits), some (ZI (x3_78 + 1)), some (ZI ((18 * o) + (6 * x3_78))), some (ZI r120), some (ZI v0_165), some (ZI (zq_and r180 r184)), some (ZI (σ_78 6 ((18 * o) + (6 * x3_78))))] (x3_78 + 1) dX12_doOrder_290 rfl rfl (by decide) rfl rfl ?_
                          refine zr_goto (pc := 293) hV 78 dX12_doOrder_293 (by decide) ?_
                          refine zr_sub (pc := 78) hV [some (ZR 0), some (ZI o), some (ZI bits), some (ZI (x3_78 + 1)), none, none, none, none, none] (⟨rfl, rfl, rfl, rfl, trivial⟩) ?_
                          exact ih78 (x3_78 + 1) σ246 (by omega) hσ246 hFσ246 (by omega)
                    · show V 205 [some (ZR 0), some (ZI o), some (ZI bits), some (ZI x3_78), some (ZI ((18 * o) + (6 * x3_78))), some (ZI r120), some (ZI v0_165), some (ZI (zq_and r180 r184)), some (ZI (σ_78 6 ((18 * o) + (6 * x3_78))))] [] 41 σ_78
                      refine zr_aload_n (pc := 205) hV dX12_doOrder_205 rfl rfl ?_
                      refine zr_getR (pc := 206) hV 24 15 dX12_doOrder_206 fX12_62 rfl rfl rfl (by decide) (zx_g24 hσ_78) (by omega) ?_
                      refine zr_aload_n (pc := 209) hV dX12_doOrder_209 rfl rfl ?_
                      refine zr_iload_n (pc := 210) hV dX12_doOrder_210 rfl rfl ?_
                      refine zr_iload_n (pc := 211) hV dX12_doOrder_211 rfl rfl ?_
                      refine zr_iload (pc := 212) hV dX12_doOrder_212 rfl ?_
                      refine zr_callVp (pc := 214) hV [ZI o, ZI bits, ZI (σ_78 6 ((18 * o) + (6 * x3_78)))] (st := [ZR 15]) (c_X12_fieldOf (σ := σ_78) hσ_78 o bits (σ_78 6 ((18 * o) + (6 * x3_78))) (by omega) (by omega) (by omega) (zx_B_fr (fun i => hFσ_78 2 i (by omega)) (hFσ_78 0 2 (by omega)) q3)) dX12_doOrder_214 mX12_289 rfl (by decide) (by decide) (Nat.le_of_ble_eq_true rfl) (Nat.le_refl _) (fun r214 hr214 pr214 => ?_)
                      refine zr_iload (pc := 217) hV dX12_doOrder_217 rfl ?_
                      refine zr_iast (pc := 219) hV dX12_doOrder_219 rfl (by decide) rfl (by omega) (fun σ219 eσ219 => ?_)
                      have hσ219 : zx_T σ219 := zx_ua15 eσ219 hσ_78 (by omega)
                      have hFσ219 : ∀ a i : Int, (a ≠ 15) → σ219 a i = σ a i := fun a i h => by rw [eσ219, zq_up_ne (fun q => h q.1)]; exact hFσ_78 a i h
                      refine zr_goto (pc := 220) hV 290 dX12_doOrder_220 (by decide) ?_
                      show V 290 [some (ZR 0), some (ZI o), some (ZI bits), some (ZI x3_78), some (ZI ((18 * o) + (6 * x3_78))), some (ZI r120), some (ZI v0_165), some (ZI (zq_and r180 r184)), some (ZI (σ_78 6 ((18 * o) + (6 * x3_78))))] [] 41 σ219
                      refine zr_iinc (pc := 290) hV [some (ZR 0), some (ZI o), some (ZI bits), some (ZI (x3_78 + 1)), some (ZI ((18 * o) + (6 * x3_78))), some (ZI r120), some (ZI v0_165), some (ZI (zq_and r180 r184)), some (ZI (σ_78 6 ((18 * o) + (6 * x3_78))))] (x3_78 + 1) dX12_doOrder_290 rfl rfl (by decide) rfl rfl ?_
                      refine zr_goto (pc := 293) hV 78 dX12_doOrder_293 (by decide) ?_
                      refine zr_sub (pc := 78) hV [some (ZR 0), some (ZI o), some (ZI bits), some (ZI (x3_78 + 1)), none, none, none, none, none] (⟨rfl, rfl, rfl, rfl, trivial⟩) ?_
                      exact ih78 (x3_78 + 1) σ219 (by omega) hσ219 hFσ219 (by omega)
                  refine zr_if_le (pc := 134) hV 164 dX12_doOrder_134 (by decide) (by omega) (fun c80 => ?_) (fun c80 => ?_)
                  · show V 164 [some (ZR 0), some (ZI o), some (ZI bits), some (ZI x3_78), some (ZI ((18 * o) + (6 * x3_78))), some (ZI r120), none, none, none] [] 41 σ_78
                    refine zr_iconst (pc := 164) hV 0 dX12_doOrder_164 rfl ?_
                    exact J165 0 (by omega)
                  · show V 137 [some (ZR 0), some (ZI o), some (ZI bits), some (ZI x3_78), some (ZI ((18 * o) + (6 * x3_78))), some (ZI r120), none, none, none] [] 41 σ_78
                    refine zr_aload_n (pc := 137) hV dX12_doOrder_137 rfl rfl ?_
                    refine zr_iload_n (pc := 138) hV dX12_doOrder_138 rfl rfl ?_
                    refine zr_iload_n (pc := 139) hV dX12_doOrder_139 rfl rfl ?_
                    refine zr_aload_n (pc := 140) hV dX12_doOrder_140 rfl rfl ?_
                    refine zr_getR (pc := 141) hV 9 6 dX12_doOrder_141 fX12_35 rfl rfl rfl (by decide) (zx_g9 hσ_78) (by omega) ?_
                    refine zr_iload (pc := 144) hV dX12_doOrder_144 rfl ?_
                    refine zr_iconst (pc := 146) hV 4 dX12_doOrder_146 rfl ?_
                    refine zr_iadd (pc := 147) hV dX12_doOrder_147 ?_
                    refine zr_iald (pc := 148) hV dX12_doOrder_148 rfl (by decide) rfl (by omega) ?_
                    have t81 := zx_ac4 hσ_78 (((18 * o) + (6 * x3_78)) + 4) (by omega)
                    have t82 : σ_78 6 (((18 * o) + (6 * x3_78)) + 4) = σ 6 (((18 * o) + (6 * x3_78)) + 4) := hFσ_78 _ _ (by omega)
                    have za := q2 x3_78 (by omega) (by omega)
                    refine zr_aload_n (pc := 149) hV dX12_doOrder_149 rfl rfl ?_
                    refine zr_getR (pc := 150) hV 9 6 dX12_doOrder_150 fX12_35 rfl rfl rfl (by decide) (zx_g9 hσ_78) (by omega) ?_
                    refine zr_iload (pc := 153) hV dX12_doOrder_153 rfl ?_
                    refine zr_iconst (pc := 155) hV 5 dX12_doOrder_155 rfl ?_
                    refine zr_iadd (pc := 156) hV dX12_doOrder_156 ?_
                    refine zr_iald (pc := 157) hV dX12_doOrder_157 rfl (by decide) rfl (by omega) ?_
                    have t83 := zx_ac hσ_78 (((18 * o) + (6 * x3_78)) + 5)
                    have t84 : σ_78 6 (((18 * o) + (6 * x3_78)) + 5) = σ 6 (((18 * o) + (6 * x3_78)) + 5) := hFσ_78 _ _ (by omega)
                    refine zr_callVp (pc := 158) hV [ZI o, ZI bits, ZI (σ_78 6 (((18 * o) + (6 * x3_78)) + 4)), ZI (σ_78 6 (((18 * o) + (6 * x3_78)) + 5))] (st := []) (c_X12_valueOf (σ := σ_78) hσ_78 o bits (σ_78 6 (((18 * o) + (6 * x3_78)) + 4)) (σ_78 6 (((18 * o) + (6 * x3_78)) + 5)) (by omega) (by omega) (by omega) (by omega) (zx_B_fr (fun i => hFσ_78 2 i (by omega)) (hFσ_78 0 2 (by omega)) q3)) dX12_doOrder_158 mX12_355 rfl (by decide) (by decide) (Nat.le_of_ble_eq_true rfl) (Nat.le_refl _) (fun r158 hr158 pr158 => ?_)
                    refine zr_goto (pc := 161) hV 165 dX12_doOrder_161 (by decide) ?_
                    exact J165 r158 (by omega)
            exact L78 (3 - (0 : Int) + 1 : Int).toNat 0 σ (by omega) hσ (fun a i _ => rfl) (by omega)
          · exfalso; omega
    refine zr_icmp_ne (pc := 16) hV 30 dX12_doOrder_16 (by decide) (by omega) ⟨by decide, by decide⟩ (fun c85 => ?_) (fun c85 => ?_)
    · show V 30 [some (ZR 0), some (ZI o), some (ZI bits), none, none, none, none, none, none] [] 41 σ
      refine zr_aload_n (pc := 30) hV dX12_doOrder_30 rfl rfl ?_
      refine zr_getR (pc := 31) hV 24 15 dX12_doOrder_31 fX12_62 rfl rfl rfl (by decide) (zx_g24 hσ) (by omega) ?_
      refine zr_aload_n (pc := 34) hV dX12_doOrder_34 rfl rfl ?_
      refine zr_iload_n (pc := 35) hV dX12_doOrder_35 rfl rfl ?_
      refine zr_iload_n (pc := 36) hV dX12_doOrder_36 rfl rfl ?_
      refine zr_aload_n (pc := 37) hV dX12_doOrder_37 rfl rfl ?_
      refine zr_getR (pc := 38) hV 7 4 dX12_doOrder_38 fX12_29 rfl rfl rfl (by decide) (zx_g7 hσ) (by omega) ?_
      refine zr_iload_n (pc := 41) hV dX12_doOrder_41 rfl rfl ?_
      refine zr_iald (pc := 42) hV dX12_doOrder_42 rfl (by decide) rfl (by omega) ?_
      have t86 := zx_ga4 hσ o
      refine zr_callVp (pc := 43) hV [ZI o, ZI bits, ZI (σ 4 o)] (st := [ZR 15]) (c_X12_fieldOf (σ := σ) hσ o bits (σ 4 o) (by omega) (by omega) (by omega) q3) dX12_doOrder_43 mX12_289 rfl (by decide) (by decide) (Nat.le_of_ble_eq_true rfl) (Nat.le_refl _) (fun r43 hr43 pr43 => ?_)
      refine zr_iald (pc := 46) hV dX12_doOrder_46 rfl (by decide) rfl (by omega) ?_
      have t87 := zx_stW hσ r43 (by omega)
      exact J47 (σ 15 r43) (by omega)
    · show V 19 [some (ZR 0), some (ZI o), some (ZI bits), none, none, none, none, none, none] [] 41 σ
      refine zr_aload_n (pc := 19) hV dX12_doOrder_19 rfl rfl ?_
      refine zr_getR (pc := 20) hV 24 15 dX12_doOrder_20 fX12_62 rfl rfl rfl (by decide) (zx_g24 hσ) (by omega) ?_
      refine zr_sipush (pc := 23) hV 264 dX12_doOrder_23 (by decide) ?_
      refine zr_iald (pc := 26) hV dX12_doOrder_26 rfl (by decide) rfl (by omega) ?_
      have t88 := zx_stZ hσ
      refine zr_goto (pc := 27) hV 47 dX12_doOrder_27 (by decide) ?_
      exact J47 (σ 15 264) (by omega)
set_option maxHeartbeats 800000 in
theorem c_X12_targetsOf {σ : zq_S} (hσ : zx_T σ) (o bits : Int) (q0 : 0 ≤ o ∧ o ≤ 20) (q1 : zq_in bits) (q2 : zx_B σ o) : zq_C zx_w yX12_targetsOf cX12_targetsOf 6 (some .int) 1 25 41 41 [ZR 0, ZI o, ZI bits] σ (zq_pp σ (fun r => True)) := by
  refine zq_C_of (by decide) (Nat.le_refl _) (Nat.le_of_ble_eq_true rfl) [some (ZR 0), some (ZI o), some (ZI bits), none, none, none] rfl (fun V hV => ?_)
  show V 0 [some (ZR 0), some (ZI o), some (ZI bits), none, none, none] [] 41 σ
  refine zr_iconst (pc := 0) hV 0 dX12_targetsOf_0 rfl ?_
  refine zr_istore_n (pc := 1) hV [some (ZR 0), some (ZI o), some (ZI bits), some (ZI 0), none, none] dX12_targetsOf_1 rfl (by decide) rfl rfl ?_
  refine zr_iconst (pc := 2) hV 0 dX12_targetsOf_2 rfl ?_
  refine zr_istore (pc := 3) hV [some (ZR 0), some (ZI o), some (ZI bits), some (ZI 0), some (ZI 0), none] dX12_targetsOf_3 (by decide) rfl rfl ?_
  have L5 : ∀ (fuel : Nat) (x3_5 : Int) (x4_5 : Int), ((-2147483648) ≤ x3_5 ∧ x3_5 ≤ 2147483647) → (0 ≤ x4_5 ∧ x4_5 ≤ 3) → 3 - x4_5 < (fuel : Int) → V 5 [some (ZR 0), some (ZI o), some (ZI bits), some (ZI x3_5), some (ZI x4_5), none] [] 41 σ := by
    intro fuel
    induction fuel with
    | zero =>
      intro x3_5 x4_5 hx3_5 hx4_5 hm5
      exfalso; omega
    | succ fuel ih =>
      intro x3_5 x4_5 hx3_5 hx4_5 hm5
      have ih5 := ih
      show V 5 [some (ZR 0), some (ZI o), some (ZI bits), some (ZI x3_5), some (ZI x4_5), none] [] 41 σ
      refine zr_iload (pc := 5) hV dX12_targetsOf_5 rfl ?_
      refine zr_aload_n (pc := 7) hV dX12_targetsOf_7 rfl rfl ?_
      refine zr_getR (pc := 8) hV 8 5 dX12_targetsOf_8 fX12_32 rfl rfl rfl (by decide) (zx_g8 hσ) (by omega) ?_
      refine zr_iload_n (pc := 11) hV dX12_targetsOf_11 rfl rfl ?_
      refine zr_iald (pc := 12) hV dX12_targetsOf_12 rfl (by decide) rfl (by omega) ?_
      have t1 := zx_ga5 hσ o
      refine zr_icmp_ge (pc := 13) hV 87 dX12_targetsOf_13 (by decide) (by omega) (by omega) (fun c2 => ?_) (fun c2 => ?_)
      · show V 87 [some (ZR 0), some (ZI o), some (ZI bits), some (ZI x3_5), some (ZI x4_5), none] [] 41 σ
        refine zr_iload_n (pc := 87) hV dX12_targetsOf_87 rfl rfl ?_
        exact zr_iret (pc := 88) hV dX12_targetsOf_88 rfl rfl ⟨rfl, _, rfl, (by omega), trivial⟩
      · show V 16 [some (ZR 0), some (ZI o), some (ZI bits), some (ZI x3_5), some (ZI x4_5), none] [] 41 σ
        refine zr_aload_n (pc := 16) hV dX12_targetsOf_16 rfl rfl ?_
        refine zr_getR (pc := 17) hV 9 6 dX12_targetsOf_17 fX12_35 rfl rfl rfl (by decide) (zx_g9 hσ) (by omega) ?_
        refine zr_bipush (pc := 20) hV 18 dX12_targetsOf_20 (by decide) ?_
        refine zr_iload_n (pc := 22) hV dX12_targetsOf_22 rfl rfl ?_
        refine zr_imul (pc := 23) hV dX12_targetsOf_23 ?_
        refine zr_bipush (pc := 24) hV 6 dX12_targetsOf_24 (by decide) ?_
        refine zr_iload (pc := 26) hV dX12_targetsOf_26 rfl ?_
        refine zr_imul (pc := 28) hV dX12_targetsOf_28 ?_
        refine zr_iadd (pc := 29) hV dX12_targetsOf_29 ?_
        refine zr_iald (pc := 30) hV dX12_targetsOf_30 rfl (by decide) rfl (by omega) ?_
        have t3 := zx_ac0 hσ ((18 * o) + (6 * x4_5)) (by omega)
        refine zr_istore (pc := 31) hV [some (ZR 0), some (ZI o), some (ZI bits), some (ZI x3_5), some (ZI x4_5), some (ZI (σ 6 ((18 * o) + (6 * x4_5))))] dX12_targetsOf_31 (by decide) rfl rfl ?_
        refine zr_iload_n (pc := 33) hV dX12_targetsOf_33 rfl rfl ?_
        refine zr_iload (pc := 34) hV dX12_targetsOf_34 rfl ?_
        refine zr_iconst (pc := 36) hV 3 dX12_targetsOf_36 rfl ?_
        refine zr_icmp_ge (pc := 37) hV 53 dX12_targetsOf_37 (by decide) (by omega) ⟨by decide, by decide⟩ (fun c4 => ?_) (fun c4 => ?_)
        · show V 53 [some (ZR 0), some (ZI o), some (ZI bits), some (ZI x3_5), some (ZI x4_5), some (ZI (σ 6 ((18 * o) + (6 * x4_5))))] [ZI x3_5] 41 σ
          refine zr_iload (pc := 53) hV dX12_targetsOf_53 rfl ?_
          refine zr_iconst (pc := 55) hV 4 dX12_targetsOf_55 rfl ?_
          refine zr_icmp_ne (pc := 56) hV 65 dX12_targetsOf_56 (by decide) (by omega) ⟨by decide, by decide⟩ (fun c5 => ?_) (fun c5 => ?_)
          · show V 65 [some (ZR 0), some (ZI o), some (ZI bits), some (ZI x3_5), some (ZI x4_5), some (ZI (σ 6 ((18 * o) + (6 * x4_5))))] [ZI x3_5] 41 σ
            refine zr_iload (pc := 65) hV dX12_targetsOf_65 rfl ?_
            refine zr_bipush (pc := 67) hV 6 dX12_targetsOf_67 (by decide) ?_
            refine zr_icmp_lt (pc := 69) hV 78 dX12_targetsOf_69 (by decide) (by omega) ⟨by decide, by decide⟩ (fun c6 => ?_) (fun c6 => ?_)
            · show V 78 [some (ZR 0), some (ZI o), some (ZI bits), some (ZI x3_5), some (ZI x4_5), some (ZI (σ 6 ((18 * o) + (6 * x4_5))))] [ZI x3_5] 41 σ
              refine zr_iconst (pc := 78) hV 0 dX12_targetsOf_78 rfl ?_
              show V 79 [some (ZR 0), some (ZI o), some (ZI bits), some (ZI x3_5), some (ZI x4_5), some (ZI (σ 6 ((18 * o) + (6 * x4_5))))] [ZI 0, ZI x3_5] 41 σ
              refine zr_ior (pc := 79) hV dX12_targetsOf_79 ?_
              have t7 := zq_or_in x3_5 0
              refine zr_istore_n (pc := 80) hV [some (ZR 0), some (ZI o), some (ZI bits), some (ZI (zq_or x3_5 0)), some (ZI x4_5), some (ZI (σ 6 ((18 * o) + (6 * x4_5))))] dX12_targetsOf_80 rfl (by decide) rfl rfl ?_
              refine zr_iinc (pc := 81) hV [some (ZR 0), some (ZI o), some (ZI bits), some (ZI (zq_or x3_5 0)), some (ZI (x4_5 + 1)), some (ZI (σ 6 ((18 * o) + (6 * x4_5))))] (x4_5 + 1) dX12_targetsOf_81 rfl rfl (by decide) rfl rfl ?_
              refine zr_goto (pc := 84) hV 5 dX12_targetsOf_84 (by decide) ?_
              refine zr_sub (pc := 5) hV [some (ZR 0), some (ZI o), some (ZI bits), some (ZI (zq_or x3_5 0)), some (ZI (x4_5 + 1)), none] (⟨rfl, rfl, rfl, rfl, rfl, trivial⟩) ?_
              exact ih5 (zq_or x3_5 0) (x4_5 + 1) (by omega) (by omega) (by omega)
            · show V 72 [some (ZR 0), some (ZI o), some (ZI bits), some (ZI x3_5), some (ZI x4_5), some (ZI (σ 6 ((18 * o) + (6 * x4_5))))] [ZI x3_5] 41 σ
              refine zr_sipush (pc := 72) hV 256 dX12_targetsOf_72 (by decide) ?_
              refine zr_goto (pc := 75) hV 79 dX12_targetsOf_75 (by decide) ?_
              show V 79 [some (ZR 0), some (ZI o), some (ZI bits), some (ZI x3_5), some (ZI x4_5), some (ZI (σ 6 ((18 * o) + (6 * x4_5))))] [ZI 256, ZI x3_5] 41 σ
              refine zr_ior (pc := 79) hV dX12_targetsOf_79 ?_
              have t8 := zq_or_in x3_5 256
              refine zr_istore_n (pc := 80) hV [some (ZR 0), some (ZI o), some (ZI bits), some (ZI (zq_or x3_5 256)), some (ZI x4_5), some (ZI (σ 6 ((18 * o) + (6 * x4_5))))] dX12_targetsOf_80 rfl (by decide) rfl rfl ?_
              refine zr_iinc (pc := 81) hV [some (ZR 0), some (ZI o), some (ZI bits), some (ZI (zq_or x3_5 256)), some (ZI (x4_5 + 1)), some (ZI (σ 6 ((18 * o) + (6 * x4_5))))] (x4_5 + 1) dX12_targetsOf_81 rfl rfl (by decide) rfl rfl ?_
              refine zr_goto (pc := 84) hV 5 dX12_targetsOf_84 (by decide) ?_
              refine zr_sub (pc := 5) hV [some (ZR 0), some (ZI o), some (ZI bits), some (ZI (zq_or x3_5 256)), some (ZI (x4_5 + 1)), none] (⟨rfl, rfl, rfl, rfl, rfl, trivial⟩) ?_
              exact ih5 (zq_or x3_5 256) (x4_5 + 1) (by omega) (by omega) (by omega)
          · show V 59 [some (ZR 0), some (ZI o), some (ZI bits), some (ZI x3_5), some (ZI x4_5), some (ZI (σ 6 ((18 * o) + (6 * x4_5))))] [ZI x3_5] 41 σ
            refine zr_sipush (pc := 59) hV 512 dX12_targetsOf_59 (by decide) ?_
            refine zr_goto (pc := 62) hV 79 dX12_targetsOf_62 (by decide) ?_
            show V 79 [some (ZR 0), some (ZI o), some (ZI bits), some (ZI x3_5), some (ZI x4_5), some (ZI (σ 6 ((18 * o) + (6 * x4_5))))] [ZI 512, ZI x3_5] 41 σ
            refine zr_ior (pc := 79) hV dX12_targetsOf_79 ?_
            have t9 := zq_or_in x3_5 512
            refine zr_istore_n (pc := 80) hV [some (ZR 0), some (ZI o), some (ZI bits), some (ZI (zq_or x3_5 512)), some (ZI x4_5), some (ZI (σ 6 ((18 * o) + (6 * x4_5))))] dX12_targetsOf_80 rfl (by decide) rfl rfl ?_
            refine zr_iinc (pc := 81) hV [some (ZR 0), some (ZI o), some (ZI bits), some (ZI (zq_or x3_5 512)), some (ZI (x4_5 + 1)), some (ZI (σ 6 ((18 * o) + (6 * x4_5))))] (x4_5 + 1) dX12_targetsOf_81 rfl rfl (by decide) rfl rfl ?_
            refine zr_goto (pc := 84) hV 5 dX12_targetsOf_84 (by decide) ?_
            refine zr_sub (pc := 5) hV [some (ZR 0), some (ZI o), some (ZI bits), some (ZI (zq_or x3_5 512)), some (ZI (x4_5 + 1)), none] (⟨rfl, rfl, rfl, rfl, rfl, trivial⟩) ?_
            exact ih5 (zq_or x3_5 512) (x4_5 + 1) (by omega) (by omega) (by omega)
        · show V 40 [some (ZR 0), some (ZI o), some (ZI bits), some (ZI x3_5), some (ZI x4_5), some (ZI (σ 6 ((18 * o) + (6 * x4_5))))] [ZI x3_5] 41 σ
          refine zr_iconst (pc := 40) hV 1 dX12_targetsOf_40 rfl ?_
          refine zr_aload_n (pc := 41) hV dX12_targetsOf_41 rfl rfl ?_
          refine zr_iload_n (pc := 42) hV dX12_targetsOf_42 rfl rfl ?_
          refine zr_iload_n (pc := 43) hV dX12_targetsOf_43 rfl rfl ?_
          refine zr_iload (pc := 44) hV dX12_targetsOf_44 rfl ?_
          refine zr_callVp (pc := 46) hV [ZI o, ZI bits, ZI (σ 6 ((18 * o) + (6 * x4_5)))] (st := [ZI 1, ZI x3_5]) (c_X12_fieldOf (σ := σ) hσ o bits (σ 6 ((18 * o) + (6 * x4_5))) (by omega) (by omega) (by omega) q2) dX12_targetsOf_46 mX12_289 rfl (by decide) (by decide) (Nat.le_of_ble_eq_true rfl) (Nat.le_refl _) (fun r46 hr46 pr46 => ?_)
          refine zr_ishl (pc := 49) hV dX12_targetsOf_49 ?_
          have t10 := zq_shl_in 1 r46
          refine zr_goto (pc := 50) hV 79 dX12_targetsOf_50 (by decide) ?_
          show V 79 [some (ZR 0), some (ZI o), some (ZI bits), some (ZI x3_5), some (ZI x4_5), some (ZI (σ 6 ((18 * o) + (6 * x4_5))))] [ZI (zq_shl 1 r46), ZI x3_5] 41 σ
          refine zr_ior (pc := 79) hV dX12_targetsOf_79 ?_
          have t11 := zq_or_in x3_5 (zq_shl 1 r46)
          refine zr_istore_n (pc := 80) hV [some (ZR 0), some (ZI o), some (ZI bits), some (ZI (zq_or x3_5 (zq_shl 1 r46))), some (ZI x4_5), some (ZI (σ 6 ((18 * o) + (6 * x4_5))))] dX12_targetsOf_80 rfl (by decide) rfl rfl ?_
          refine zr_iinc (pc := 81) hV [some (ZR 0), some (ZI o), some (ZI bits), some (ZI (zq_or x3_5 (zq_shl 1 r46))), some (ZI (x4_5 + 1)), some (ZI (σ 6 ((18 * o) + (6 * x4_5))))] (x4_5 + 1) dX12_targetsOf_81 rfl rfl (by decide) rfl rfl ?_
          refine zr_goto (pc := 84) hV 5 dX12_targetsOf_84 (by decide) ?_
          refine zr_sub (pc := 5) hV [some (ZR 0), some (ZI o), some (ZI bits), some (ZI (zq_or x3_5 (zq_shl 1 r46))), some (ZI (x4_5 + 1)), none] (⟨rfl, rfl, rfl, rfl, rfl, trivial⟩) ?_
          exact ih5 (zq_or x3_5 (zq_shl 1 r46)) (x4_5 + 1) (by omega) (by omega) (by omega)
  exact L5 (3 - (0 : Int) + 1 : Int).toNat 0 0 (by omega) (by omega) (by omega)
set_option maxHeartbeats 800000 in
theorem c_X12_inBrackets {σ : zq_S} (hσ : zx_T σ) (o bits what : Int) (q0 : 0 ≤ o ∧ o ≤ 20) (q1 : zq_in bits) (q2 : 0 ≤ what ∧ what ≤ 10) (q3 : zx_B σ o) : zq_C zx_w yX12_inBrackets cX12_inBrackets 4 (some .int) 1 25 41 41 [ZR 0, ZI o, ZI bits, ZI what] σ (zq_pp σ (fun r => True)) := by
  refine zq_C_of (by decide) (Nat.le_refl _) (Nat.le_of_ble_eq_true rfl) [some (ZR 0), some (ZI o), some (ZI bits), some (ZI what)] rfl (fun V hV => ?_)
  show V 0 [some (ZR 0), some (ZI o), some (ZI bits), some (ZI what)] [] 41 σ
  refine zr_iload_n (pc := 0) hV dX12_inBrackets_0 rfl rfl ?_
  refine zr_bipush (pc := 1) hV 6 dX12_inBrackets_1 (by decide) ?_
  refine zr_icmp_lt (pc := 3) hV 27 dX12_inBrackets_3 (by decide) (by omega) ⟨by decide, by decide⟩ (fun c1 => ?_) (fun c1 => ?_)
  · show V 27 [some (ZR 0), some (ZI o), some (ZI bits), some (ZI what)] [] 41 σ
    refine zr_iconst (pc := 27) hV 0 dX12_inBrackets_27 rfl ?_
    show V 28 [some (ZR 0), some (ZI o), some (ZI bits), some (ZI what)] [ZI 0] 41 σ
    exact zr_iret (pc := 28) hV dX12_inBrackets_28 rfl rfl ⟨rfl, _, rfl, ⟨by decide, by decide⟩, trivial⟩
  · show V 6 [some (ZR 0), some (ZI o), some (ZI bits), some (ZI what)] [] 41 σ
    refine zr_iload_n (pc := 6) hV dX12_inBrackets_6 rfl rfl ?_
    refine zr_bipush (pc := 7) hV 9 dX12_inBrackets_7 (by decide) ?_
    refine zr_icmp_ge (pc := 9) hV 27 dX12_inBrackets_9 (by decide) (by omega) ⟨by decide, by decide⟩ (fun c2 => ?_) (fun c2 => ?_)
    · show V 27 [some (ZR 0), some (ZI o), some (ZI bits), some (ZI what)] [] 41 σ
      refine zr_iconst (pc := 27) hV 0 dX12_inBrackets_27 rfl ?_
      show V 28 [some (ZR 0), some (ZI o), some (ZI bits), some (ZI what)] [ZI 0] 41 σ
      exact zr_iret (pc := 28) hV dX12_inBrackets_28 rfl rfl ⟨rfl, _, rfl, ⟨by decide, by decide⟩, trivial⟩
    · show V 12 [some (ZR 0), some (ZI o), some (ZI bits), some (ZI what)] [] 41 σ
      refine zr_iconst (pc := 12) hV 1 dX12_inBrackets_12 rfl ?_
      refine zr_aload_n (pc := 13) hV dX12_inBrackets_13 rfl rfl ?_
      refine zr_iload_n (pc := 14) hV dX12_inBrackets_14 rfl rfl ?_
      refine zr_iload_n (pc := 15) hV dX12_inBrackets_15 rfl rfl ?_
      refine zr_iload_n (pc := 16) hV dX12_inBrackets_16 rfl rfl ?_
      refine zr_bipush (pc := 17) hV 6 dX12_inBrackets_17 (by decide) ?_
      refine zr_isub (pc := 19) hV dX12_inBrackets_19 ?_
      refine zr_callVp (pc := 20) hV [ZI o, ZI bits, ZI (what - 6)] (st := [ZI 1]) (c_X12_fieldOf (σ := σ) hσ o bits (what - 6) (by omega) (by omega) (by omega) q3) dX12_inBrackets_20 mX12_289 rfl (by decide) (by decide) (Nat.le_of_ble_eq_true rfl) (Nat.le_refl _) (fun r20 hr20 pr20 => ?_)
      refine zr_ishl (pc := 23) hV dX12_inBrackets_23 ?_
      have t3 := zq_shl_in 1 r20
      refine zr_goto (pc := 24) hV 28 dX12_inBrackets_24 (by decide) ?_
      show V 28 [some (ZR 0), some (ZI o), some (ZI bits), some (ZI what)] [ZI (zq_shl 1 r20)] 41 σ
      exact zr_iret (pc := 28) hV dX12_inBrackets_28 rfl rfl ⟨rfl, _, rfl, (by omega), trivial⟩
set_option maxHeartbeats 800000 in
theorem c_X12_operandOf {σ : zq_S} (hσ : zx_T σ) (o bits what : Int) (q0 : 0 ≤ o ∧ o ≤ 20) (q1 : zq_in bits) (q2 : 0 ≤ what ∧ what ≤ 10) (q3 : zx_B σ o) : zq_C zx_w yX12_operandOf cX12_operandOf 4 (some .int) 2 48 41 41 [ZR 0, ZI o, ZI bits, ZI what] σ (zq_pp σ (fun r => True)) := by
  refine zq_C_of (by decide) (Nat.le_refl _) (Nat.le_of_ble_eq_true rfl) [some (ZR 0), some (ZI o), some (ZI bits), some (ZI what)] rfl (fun V hV => ?_)
  show V 0 [some (ZR 0), some (ZI o), some (ZI bits), some (ZI what)] [] 41 σ
  refine zr_iload_n (pc := 0) hV dX12_operandOf_0 rfl rfl ?_
  refine zr_iconst (pc := 1) hV 3 dX12_operandOf_1 rfl ?_
  refine zr_icmp_ge (pc := 2) hV 15 dX12_operandOf_2 (by decide) (by omega) ⟨by decide, by decide⟩ (fun c1 => ?_) (fun c1 => ?_)
  · show V 15 [some (ZR 0), some (ZI o), some (ZI bits), some (ZI what)] [] 41 σ
    refine zr_iload_n (pc := 15) hV dX12_operandOf_15 rfl rfl ?_
    refine zr_iconst (pc := 16) hV 4 dX12_operandOf_16 rfl ?_
    refine zr_icmp_ne (pc := 17) hV 24 dX12_operandOf_17 (by decide) (by omega) ⟨by decide, by decide⟩ (fun c2 => ?_) (fun c2 => ?_)
    · show V 24 [some (ZR 0), some (ZI o), some (ZI bits), some (ZI what)] [] 41 σ
      refine zr_iload_n (pc := 24) hV dX12_operandOf_24 rfl rfl ?_
      refine zr_bipush (pc := 25) hV 6 dX12_operandOf_25 (by decide) ?_
      refine zr_icmp_lt (pc := 27) hV 50 dX12_operandOf_27 (by decide) (by omega) ⟨by decide, by decide⟩ (fun c3 => ?_) (fun c3 => ?_)
      · show V 50 [some (ZR 0), some (ZI o), some (ZI bits), some (ZI what)] [] 41 σ
        refine zr_iconst (pc := 50) hV 0 dX12_operandOf_50 rfl ?_
        show V 51 [some (ZR 0), some (ZI o), some (ZI bits), some (ZI what)] [ZI 0] 41 σ
        exact zr_iret (pc := 51) hV dX12_operandOf_51 rfl rfl ⟨rfl, _, rfl, ⟨by decide, by decide⟩, trivial⟩
      · show V 30 [some (ZR 0), some (ZI o), some (ZI bits), some (ZI what)] [] 41 σ
        refine zr_iload_n (pc := 30) hV dX12_operandOf_30 rfl rfl ?_
        refine zr_bipush (pc := 31) hV 10 dX12_operandOf_31 (by decide) ?_
        refine zr_icmp_ge (pc := 33) hV 50 dX12_operandOf_33 (by decide) (by omega) ⟨by decide, by decide⟩ (fun c4 => ?_) (fun c4 => ?_)
        · show V 50 [some (ZR 0), some (ZI o), some (ZI bits), some (ZI what)] [] 41 σ
          refine zr_iconst (pc := 50) hV 0 dX12_operandOf_50 rfl ?_
          show V 51 [some (ZR 0), some (ZI o), some (ZI bits), some (ZI what)] [ZI 0] 41 σ
          exact zr_iret (pc := 51) hV dX12_operandOf_51 rfl rfl ⟨rfl, _, rfl, ⟨by decide, by decide⟩, trivial⟩
        · show V 36 [some (ZR 0), some (ZI o), some (ZI bits), some (ZI what)] [] 41 σ
          refine zr_sipush (pc := 36) hV 256 dX12_operandOf_36 (by decide) ?_
          refine zr_aload_n (pc := 39) hV dX12_operandOf_39 rfl rfl ?_
          refine zr_iload_n (pc := 40) hV dX12_operandOf_40 rfl rfl ?_
          refine zr_iload_n (pc := 41) hV dX12_operandOf_41 rfl rfl ?_
          refine zr_iload_n (pc := 42) hV dX12_operandOf_42 rfl rfl ?_
          refine zr_callVp (pc := 43) hV [ZI o, ZI bits, ZI what] (st := [ZI 256]) (c_X12_inBrackets (σ := σ) hσ o bits what (by omega) (by omega) (by omega) q3) dX12_operandOf_43 mX12_359 rfl (by decide) (by decide) (Nat.le_of_ble_eq_true rfl) (Nat.le_refl _) (fun r43 hr43 pr43 => ?_)
          refine zr_ior (pc := 46) hV dX12_operandOf_46 ?_
          have t5 := zq_or_in 256 r43
          refine zr_goto (pc := 47) hV 51 dX12_operandOf_47 (by decide) ?_
          show V 51 [some (ZR 0), some (ZI o), some (ZI bits), some (ZI what)] [ZI (zq_or 256 r43)] 41 σ
          exact zr_iret (pc := 51) hV dX12_operandOf_51 rfl rfl ⟨rfl, _, rfl, (by omega), trivial⟩
    · show V 20 [some (ZR 0), some (ZI o), some (ZI bits), some (ZI what)] [] 41 σ
      refine zr_sipush (pc := 20) hV 512 dX12_operandOf_20 (by decide) ?_
      exact zr_iret (pc := 23) hV dX12_operandOf_23 rfl rfl ⟨rfl, _, rfl, ⟨by decide, by decide⟩, trivial⟩
  · show V 5 [some (ZR 0), some (ZI o), some (ZI bits), some (ZI what)] [] 41 σ
    refine zr_iconst (pc := 5) hV 1 dX12_operandOf_5 rfl ?_
    refine zr_aload_n (pc := 6) hV dX12_operandOf_6 rfl rfl ?_
    refine zr_iload_n (pc := 7) hV dX12_operandOf_7 rfl rfl ?_
    refine zr_iload_n (pc := 8) hV dX12_operandOf_8 rfl rfl ?_
    refine zr_iload_n (pc := 9) hV dX12_operandOf_9 rfl rfl ?_
    refine zr_callVp (pc := 10) hV [ZI o, ZI bits, ZI what] (st := [ZI 1]) (c_X12_fieldOf (σ := σ) hσ o bits what (by omega) (by omega) (by omega) q3) dX12_operandOf_10 mX12_289 rfl (by decide) (by decide) (Nat.le_of_ble_eq_true rfl) (Nat.le_refl _) (fun r10 hr10 pr10 => ?_)
    refine zr_ishl (pc := 13) hV dX12_operandOf_13 ?_
    have t6 := zq_shl_in 1 r10
    exact zr_iret (pc := 14) hV dX12_operandOf_14 rfl rfl ⟨rfl, _, rfl, (by omega), trivial⟩
set_option maxHeartbeats 800000 in
theorem c_X12_usesOf {σ : zq_S} (hσ : zx_T σ) (o bits : Int) (q0 : 0 ≤ o ∧ o ≤ 20) (q1 : zq_in bits) (q2 : zx_A σ o) (q3 : zx_B σ o) : zq_C zx_w yX12_usesOf cX12_usesOf 6 (some .int) 3 71 41 41 [ZR 0, ZI o, ZI bits] σ (zq_pp σ (fun r => True)) := by
  refine zq_C_of (by decide) (Nat.le_refl _) (Nat.le_of_ble_eq_true rfl) [some (ZR 0), some (ZI o), some (ZI bits), none, none, none] rfl (fun V hV => ?_)
  show V 0 [some (ZR 0), some (ZI o), some (ZI bits), none, none, none] [] 41 σ
  refine zr_aload_n (pc := 0) hV dX12_usesOf_0 rfl rfl ?_
  refine zr_getR (pc := 1) hV 6 3 dX12_usesOf_1 fX12_26 rfl rfl rfl (by decide) (zx_g6 hσ) (by omega) ?_
  refine zr_iload_n (pc := 4) hV dX12_usesOf_4 rfl rfl ?_
  refine zr_iald (pc := 5) hV dX12_usesOf_5 rfl (by decide) rfl (by omega) ?_
  have t1 := zx_ga3 hσ o
  refine zr_if_ne (pc := 6) hV 13 dX12_usesOf_6 (by decide) (by omega) (fun c2 => ?_) (fun c2 => ?_)
  · show V 13 [some (ZR 0), some (ZI o), some (ZI bits), none, none, none] [] 41 σ
    refine zr_aload_n (pc := 13) hV dX12_usesOf_13 rfl rfl ?_
    refine zr_getR (pc := 14) hV 7 4 dX12_usesOf_14 fX12_29 rfl rfl rfl (by decide) (zx_g7 hσ) (by omega) ?_
    refine zr_iload_n (pc := 17) hV dX12_usesOf_17 rfl rfl ?_
    refine zr_iald (pc := 18) hV dX12_usesOf_18 rfl (by decide) rfl (by omega) ?_
    have t3 := zx_ga4 hσ o
    refine zr_iconst (pc := 19) hV 4 dX12_usesOf_19 rfl ?_
    refine zr_icmp_ne (pc := 20) hV 29 dX12_usesOf_20 (by decide) (by omega) ⟨by decide, by decide⟩ (fun c4 => ?_) (fun c4 => ?_)
    · show V 29 [some (ZR 0), some (ZI o), some (ZI bits), none, none, none] [] 41 σ
      refine zr_iconst (pc := 29) hV 1 dX12_usesOf_29 rfl ?_
      refine zr_aload_n (pc := 30) hV dX12_usesOf_30 rfl rfl ?_
      refine zr_iload_n (pc := 31) hV dX12_usesOf_31 rfl rfl ?_
      refine zr_iload_n (pc := 32) hV dX12_usesOf_32 rfl rfl ?_
      refine zr_aload_n (pc := 33) hV dX12_usesOf_33 rfl rfl ?_
      refine zr_getR (pc := 34) hV 7 4 dX12_usesOf_34 fX12_29 rfl rfl rfl (by decide) (zx_g7 hσ) (by omega) ?_
      refine zr_iload_n (pc := 37) hV dX12_usesOf_37 rfl rfl ?_
      refine zr_iald (pc := 38) hV dX12_usesOf_38 rfl (by decide) rfl (by omega) ?_
      have t5 := zx_ga4 hσ o
      refine zr_callVp (pc := 39) hV [ZI o, ZI bits, ZI (σ 4 o)] (st := [ZI 1]) (c_X12_fieldOf (σ := σ) hσ o bits (σ 4 o) (by omega) (by omega) (by omega) q3) dX12_usesOf_39 mX12_289 rfl (by decide) (by decide) (Nat.le_of_ble_eq_true rfl) (Nat.le_refl _) (fun r39 hr39 pr39 => ?_)
      refine zr_ishl (pc := 42) hV dX12_usesOf_42 ?_
      have t6 := zq_shl_in 1 r39
      show V 43 [some (ZR 0), some (ZI o), some (ZI bits), none, none, none] [ZI (zq_shl 1 r39)] 41 σ
      refine zr_istore_n (pc := 43) hV [some (ZR 0), some (ZI o), some (ZI bits), some (ZI (zq_shl 1 r39)), none, none] dX12_usesOf_43 rfl (by decide) rfl rfl ?_
      refine zr_iconst (pc := 44) hV 0 dX12_usesOf_44 rfl ?_
      refine zr_istore (pc := 45) hV [some (ZR 0), some (ZI o), some (ZI bits), some (ZI (zq_shl 1 r39)), some (ZI 0), none] dX12_usesOf_45 (by decide) rfl rfl ?_
      have L47 : ∀ (fuel : Nat) (x3_47 : Int) (x4_47 : Int), ((-2147483648) ≤ x3_47 ∧ x3_47 ≤ 2147483647) → (0 ≤ x4_47 ∧ x4_47 ≤ 3) → 3 - x4_47 < (fuel : Int) → V 47 [some (ZR 0), some (ZI o), some (ZI bits), some (ZI x3_47), some (ZI x4_47), none] [] 41 σ := by
        intro fuel
        induction fuel with
        | zero =>
          intro x3_47 x4_47 hx3_47 hx4_47 hm47
          exfalso; omega
        | succ fuel ih =>
          intro x3_47 x4_47 hx3_47 hx4_47 hm47
          have ih47 := ih
          show V 47 [some (ZR 0), some (ZI o), some (ZI bits), some (ZI x3_47), some (ZI x4_47), none] [] 41 σ
          refine zr_iload (pc := 47) hV dX12_usesOf_47 rfl ?_
          refine zr_aload_n (pc := 49) hV dX12_usesOf_49 rfl rfl ?_
          refine zr_getR (pc := 50) hV 8 5 dX12_usesOf_50 fX12_32 rfl rfl rfl (by decide) (zx_g8 hσ) (by omega) ?_
          refine zr_iload_n (pc := 53) hV dX12_usesOf_53 rfl rfl ?_
          refine zr_iald (pc := 54) hV dX12_usesOf_54 rfl (by decide) rfl (by omega) ?_
          have t7 := zx_ga5 hσ o
          refine zr_icmp_ge (pc := 55) hV 142 dX12_usesOf_55 (by decide) (by omega) (by omega) (fun c8 => ?_) (fun c8 => ?_)
          · show V 142 [some (ZR 0), some (ZI o), some (ZI bits), some (ZI x3_47), some (ZI x4_47), none] [] 41 σ
            refine zr_iload_n (pc := 142) hV dX12_usesOf_142 rfl rfl ?_
            exact zr_iret (pc := 143) hV dX12_usesOf_143 rfl rfl ⟨rfl, _, rfl, (by omega), trivial⟩
          · show V 58 [some (ZR 0), some (ZI o), some (ZI bits), some (ZI x3_47), some (ZI x4_47), none] [] 41 σ
            refine zr_bipush (pc := 58) hV 18 dX12_usesOf_58 (by decide) ?_
            refine zr_iload_n (pc := 60) hV dX12_usesOf_60 rfl rfl ?_
            refine zr_imul (pc := 61) hV dX12_usesOf_61 ?_
            refine zr_bipush (pc := 62) hV 6 dX12_usesOf_62 (by decide) ?_
            refine zr_iload (pc := 64) hV dX12_usesOf_64 rfl ?_
            refine zr_imul (pc := 66) hV dX12_usesOf_66 ?_
            refine zr_iadd (pc := 67) hV dX12_usesOf_67 ?_
            refine zr_istore (pc := 68) hV [some (ZR 0), some (ZI o), some (ZI bits), some (ZI x3_47), some (ZI x4_47), some (ZI ((18 * o) + (6 * x4_47)))] dX12_usesOf_68 (by decide) rfl rfl ?_
            refine zr_iload_n (pc := 70) hV dX12_usesOf_70 rfl rfl ?_
            refine zr_aload_n (pc := 71) hV dX12_usesOf_71 rfl rfl ?_
            refine zr_iload_n (pc := 72) hV dX12_usesOf_72 rfl rfl ?_
            refine zr_iload_n (pc := 73) hV dX12_usesOf_73 rfl rfl ?_
            refine zr_aload_n (pc := 74) hV dX12_usesOf_74 rfl rfl ?_
            refine zr_getR (pc := 75) hV 9 6 dX12_usesOf_75 fX12_35 rfl rfl rfl (by decide) (zx_g9 hσ) (by omega) ?_
            refine zr_iload (pc := 78) hV dX12_usesOf_78 rfl ?_
            refine zr_iald (pc := 80) hV dX12_usesOf_80 rfl (by decide) rfl (by omega) ?_
            have t9 := zx_ac0 hσ ((18 * o) + (6 * x4_47)) (by omega)
            refine zr_callVp (pc := 81) hV [ZI o, ZI bits, ZI (σ 6 ((18 * o) + (6 * x4_47)))] (st := [ZI x3_47]) (c_X12_inBrackets (σ := σ) hσ o bits (σ 6 ((18 * o) + (6 * x4_47))) (by omega) (by omega) (by omega) q3) dX12_usesOf_81 mX12_359 rfl (by decide) (by decide) (Nat.le_of_ble_eq_true rfl) (Nat.le_refl _) (fun r81 hr81 pr81 => ?_)
            refine zr_aload_n (pc := 84) hV dX12_usesOf_84 rfl rfl ?_
            refine zr_iload_n (pc := 85) hV dX12_usesOf_85 rfl rfl ?_
            refine zr_iload_n (pc := 86) hV dX12_usesOf_86 rfl rfl ?_
            refine zr_aload_n (pc := 87) hV dX12_usesOf_87 rfl rfl ?_
            refine zr_getR (pc := 88) hV 9 6 dX12_usesOf_88 fX12_35 rfl rfl rfl (by decide) (zx_g9 hσ) (by omega) ?_
            refine zr_iload (pc := 91) hV dX12_usesOf_91 rfl ?_
            refine zr_iconst (pc := 93) hV 1 dX12_usesOf_93 rfl ?_
            refine zr_iadd (pc := 94) hV dX12_usesOf_94 ?_
            refine zr_iald (pc := 95) hV dX12_usesOf_95 rfl (by decide) rfl (by omega) ?_
            have t10 := zx_ac1 hσ (((18 * o) + (6 * x4_47)) + 1) (by omega)
            refine zr_callVp (pc := 96) hV [ZI o, ZI bits, ZI (σ 6 (((18 * o) + (6 * x4_47)) + 1))] (st := [ZI r81, ZI x3_47]) (c_X12_operandOf (σ := σ) hσ o bits (σ 6 (((18 * o) + (6 * x4_47)) + 1)) (by omega) (by omega) (by omega) q3) dX12_usesOf_96 mX12_362 rfl (by decide) (by decide) (Nat.le_of_ble_eq_true rfl) (Nat.le_refl _) (fun r96 hr96 pr96 => ?_)
            refine zr_ior (pc := 99) hV dX12_usesOf_99 ?_
            have t11 := zq_or_in r81 r96
            refine zr_ior (pc := 100) hV dX12_usesOf_100 ?_
            have t12 := zq_or_in x3_47 (zq_or r81 r96)
            refine zr_istore_n (pc := 101) hV [some (ZR 0), some (ZI o), some (ZI bits), some (ZI (zq_or x3_47 (zq_or r81 r96))), some (ZI x4_47), some (ZI ((18 * o) + (6 * x4_47)))] dX12_usesOf_101 rfl (by decide) rfl rfl ?_
            refine zr_iload_n (pc := 102) hV dX12_usesOf_102 rfl rfl ?_
            refine zr_aload_n (pc := 103) hV dX12_usesOf_103 rfl rfl ?_
            refine zr_getR (pc := 104) hV 9 6 dX12_usesOf_104 fX12_35 rfl rfl rfl (by decide) (zx_g9 hσ) (by omega) ?_
            refine zr_iload (pc := 107) hV dX12_usesOf_107 rfl ?_
            refine zr_iconst (pc := 109) hV 3 dX12_usesOf_109 rfl ?_
            refine zr_iadd (pc := 110) hV dX12_usesOf_110 ?_
            refine zr_iald (pc := 111) hV dX12_usesOf_111 rfl (by decide) rfl (by omega) ?_
            have t13 := zx_ac3 hσ (((18 * o) + (6 * x4_47)) + 3) (by omega)
            refine zr_if_le (pc := 112) hV 133 dX12_usesOf_112 (by decide) (by omega) (fun c14 => ?_) (fun c14 => ?_)
            · show V 133 [some (ZR 0), some (ZI o), some (ZI bits), some (ZI (zq_or x3_47 (zq_or r81 r96))), some (ZI x4_47), some (ZI ((18 * o) + (6 * x4_47)))] [ZI (zq_or x3_47 (zq_or r81 r96))] 41 σ
              refine zr_iconst (pc := 133) hV 0 dX12_usesOf_133 rfl ?_
              show V 134 [some (ZR 0), some (ZI o), some (ZI bits), some (ZI (zq_or x3_47 (zq_or r81 r96))), some (ZI x4_47), some (ZI ((18 * o) + (6 * x4_47)))] [ZI 0, ZI (zq_or x3_47 (zq_or r81 r96))] 41 σ
              refine zr_ior (pc := 134) hV dX12_usesOf_134 ?_
              have t15 := zq_or_in (zq_or x3_47 (zq_or r81 r96)) 0
              refine zr_istore_n (pc := 135) hV [some (ZR 0), some (ZI o), some (ZI bits), some (ZI (zq_or (zq_or x3_47 (zq_or r81 r96)) 0)), some (ZI x4_47), some (ZI ((18 * o) + (6 * x4_47)))] dX12_usesOf_135 rfl (by decide) rfl rfl ?_
              refine zr_iinc (pc := 136) hV [some (ZR 0), some (ZI o), some (ZI bits), some (ZI (zq_or (zq_or x3_47 (zq_or r81 r96)) 0)), some (ZI (x4_47 + 1)), some (ZI ((18 * o) + (6 * x4_47)))] (x4_47 + 1) dX12_usesOf_136 rfl rfl (by decide) rfl rfl ?_
              refine zr_goto (pc := 139) hV 47 dX12_usesOf_139 (by decide) ?_
              refine zr_sub (pc := 47) hV [some (ZR 0), some (ZI o), some (ZI bits), some (ZI (zq_or (zq_or x3_47 (zq_or r81 r96)) 0)), some (ZI (x4_47 + 1)), none] (⟨rfl, rfl, rfl, rfl, rfl, trivial⟩) ?_
              exact ih47 (zq_or (zq_or x3_47 (zq_or r81 r96)) 0) (x4_47 + 1) (by omega) (by omega) (by omega)
            · show V 115 [some (ZR 0), some (ZI o), some (ZI bits), some (ZI (zq_or x3_47 (zq_or r81 r96))), some (ZI x4_47), some (ZI ((18 * o) + (6 * x4_47)))] [ZI (zq_or x3_47 (zq_or r81 r96))] 41 σ
              refine zr_aload_n (pc := 115) hV dX12_usesOf_115 rfl rfl ?_
              refine zr_iload_n (pc := 116) hV dX12_usesOf_116 rfl rfl ?_
              refine zr_iload_n (pc := 117) hV dX12_usesOf_117 rfl rfl ?_
              refine zr_aload_n (pc := 118) hV dX12_usesOf_118 rfl rfl ?_
              refine zr_getR (pc := 119) hV 9 6 dX12_usesOf_119 fX12_35 rfl rfl rfl (by decide) (zx_g9 hσ) (by omega) ?_
              refine zr_iload (pc := 122) hV dX12_usesOf_122 rfl ?_
              refine zr_iconst (pc := 124) hV 4 dX12_usesOf_124 rfl ?_
              refine zr_iadd (pc := 125) hV dX12_usesOf_125 ?_
              refine zr_iald (pc := 126) hV dX12_usesOf_126 rfl (by decide) rfl (by omega) ?_
              have t16 := zx_ac4 hσ (((18 * o) + (6 * x4_47)) + 4) (by omega)
              have za := q2 x4_47 (by omega) (by omega)
              refine zr_callVp (pc := 127) hV [ZI o, ZI bits, ZI (σ 6 (((18 * o) + (6 * x4_47)) + 4))] (st := [ZI (zq_or x3_47 (zq_or r81 r96))]) (c_X12_operandOf (σ := σ) hσ o bits (σ 6 (((18 * o) + (6 * x4_47)) + 4)) (by omega) (by omega) (by omega) q3) dX12_usesOf_127 mX12_362 rfl (by decide) (by decide) (Nat.le_of_ble_eq_true rfl) (Nat.le_refl _) (fun r127 hr127 pr127 => ?_)
              refine zr_goto (pc := 130) hV 134 dX12_usesOf_130 (by decide) ?_
              show V 134 [some (ZR 0), some (ZI o), some (ZI bits), some (ZI (zq_or x3_47 (zq_or r81 r96))), some (ZI x4_47), some (ZI ((18 * o) + (6 * x4_47)))] [ZI r127, ZI (zq_or x3_47 (zq_or r81 r96))] 41 σ
              refine zr_ior (pc := 134) hV dX12_usesOf_134 ?_
              have t17 := zq_or_in (zq_or x3_47 (zq_or r81 r96)) r127
              refine zr_istore_n (pc := 135) hV [some (ZR 0), some (ZI o), some (ZI bits), some (ZI (zq_or (zq_or x3_47 (zq_or r81 r96)) r127)), some (ZI x4_47), some (ZI ((18 * o) + (6 * x4_47)))] dX12_usesOf_135 rfl (by decide) rfl rfl ?_
              refine zr_iinc (pc := 136) hV [some (ZR 0), some (ZI o), some (ZI bits), some (ZI (zq_or (zq_or x3_47 (zq_or r81 r96)) r127)), some (ZI (x4_47 + 1)), some (ZI ((18 * o) + (6 * x4_47)))] (x4_47 + 1) dX12_usesOf_136 rfl rfl (by decide) rfl rfl ?_
              refine zr_goto (pc := 139) hV 47 dX12_usesOf_139 (by decide) ?_
              refine zr_sub (pc := 47) hV [some (ZR 0), some (ZI o), some (ZI bits), some (ZI (zq_or (zq_or x3_47 (zq_or r81 r96)) r127)), some (ZI (x4_47 + 1)), none] (⟨rfl, rfl, rfl, rfl, rfl, trivial⟩) ?_
              exact ih47 (zq_or (zq_or x3_47 (zq_or r81 r96)) r127) (x4_47 + 1) (by omega) (by omega) (by omega)
      exact L47 (3 - (0 : Int) + 1 : Int).toNat (zq_shl 1 r39) 0 (by omega) (by omega) (by omega)
    · show V 23 [some (ZR 0), some (ZI o), some (ZI bits), none, none, none] [] 41 σ
      refine zr_sipush (pc := 23) hV 512 dX12_usesOf_23 (by decide) ?_
      refine zr_goto (pc := 26) hV 43 dX12_usesOf_26 (by decide) ?_
      show V 43 [some (ZR 0), some (ZI o), some (ZI bits), none, none, none] [ZI 512] 41 σ
      refine zr_istore_n (pc := 43) hV [some (ZR 0), some (ZI o), some (ZI bits), some (ZI 512), none, none] dX12_usesOf_43 rfl (by decide) rfl rfl ?_
      refine zr_iconst (pc := 44) hV 0 dX12_usesOf_44 rfl ?_
      refine zr_istore (pc := 45) hV [some (ZR 0), some (ZI o), some (ZI bits), some (ZI 512), some (ZI 0), none] dX12_usesOf_45 (by decide) rfl rfl ?_
      have L47 : ∀ (fuel : Nat) (x3_47 : Int) (x4_47 : Int), ((-2147483648) ≤ x3_47 ∧ x3_47 ≤ 2147483647) → (0 ≤ x4_47 ∧ x4_47 ≤ 3) → 3 - x4_47 < (fuel : Int) → V 47 [some (ZR 0), some (ZI o), some (ZI bits), some (ZI x3_47), some (ZI x4_47), none] [] 41 σ := by
        intro fuel
        induction fuel with
        | zero =>
          intro x3_47 x4_47 hx3_47 hx4_47 hm47
          exfalso; omega
        | succ fuel ih =>
          intro x3_47 x4_47 hx3_47 hx4_47 hm47
          have ih47 := ih
          show V 47 [some (ZR 0), some (ZI o), some (ZI bits), some (ZI x3_47), some (ZI x4_47), none] [] 41 σ
          refine zr_iload (pc := 47) hV dX12_usesOf_47 rfl ?_
          refine zr_aload_n (pc := 49) hV dX12_usesOf_49 rfl rfl ?_
          refine zr_getR (pc := 50) hV 8 5 dX12_usesOf_50 fX12_32 rfl rfl rfl (by decide) (zx_g8 hσ) (by omega) ?_
          refine zr_iload_n (pc := 53) hV dX12_usesOf_53 rfl rfl ?_
          refine zr_iald (pc := 54) hV dX12_usesOf_54 rfl (by decide) rfl (by omega) ?_
          have t18 := zx_ga5 hσ o
          refine zr_icmp_ge (pc := 55) hV 142 dX12_usesOf_55 (by decide) (by omega) (by omega) (fun c19 => ?_) (fun c19 => ?_)
          · show V 142 [some (ZR 0), some (ZI o), some (ZI bits), some (ZI x3_47), some (ZI x4_47), none] [] 41 σ
            refine zr_iload_n (pc := 142) hV dX12_usesOf_142 rfl rfl ?_
            exact zr_iret (pc := 143) hV dX12_usesOf_143 rfl rfl ⟨rfl, _, rfl, (by omega), trivial⟩
          · show V 58 [some (ZR 0), some (ZI o), some (ZI bits), some (ZI x3_47), some (ZI x4_47), none] [] 41 σ
            refine zr_bipush (pc := 58) hV 18 dX12_usesOf_58 (by decide) ?_
            refine zr_iload_n (pc := 60) hV dX12_usesOf_60 rfl rfl ?_
            refine zr_imul (pc := 61) hV dX12_usesOf_61 ?_
            refine zr_bipush (pc := 62) hV 6 dX12_usesOf_62 (by decide) ?_
            refine zr_iload (pc := 64) hV dX12_usesOf_64 rfl ?_
            refine zr_imul (pc := 66) hV dX12_usesOf_66 ?_
            refine zr_iadd (pc := 67) hV dX12_usesOf_67 ?_
            refine zr_istore (pc := 68) hV [some (ZR 0), some (ZI o), some (ZI bits), some (ZI x3_47), some (ZI x4_47), some (ZI ((18 * o) + (6 * x4_47)))] dX12_usesOf_68 (by decide) rfl rfl ?_
            refine zr_iload_n (pc := 70) hV dX12_usesOf_70 rfl rfl ?_
            refine zr_aload_n (pc := 71) hV dX12_usesOf_71 rfl rfl ?_
            refine zr_iload_n (pc := 72) hV dX12_usesOf_72 rfl rfl ?_
            refine zr_iload_n (pc := 73) hV dX12_usesOf_73 rfl rfl ?_
            refine zr_aload_n (pc := 74) hV dX12_usesOf_74 rfl rfl ?_
            refine zr_getR (pc := 75) hV 9 6 dX12_usesOf_75 fX12_35 rfl rfl rfl (by decide) (zx_g9 hσ) (by omega) ?_
            refine zr_iload (pc := 78) hV dX12_usesOf_78 rfl ?_
            refine zr_iald (pc := 80) hV dX12_usesOf_80 rfl (by decide) rfl (by omega) ?_
            have t20 := zx_ac0 hσ ((18 * o) + (6 * x4_47)) (by omega)
            refine zr_callVp (pc := 81) hV [ZI o, ZI bits, ZI (σ 6 ((18 * o) + (6 * x4_47)))] (st := [ZI x3_47]) (c_X12_inBrackets (σ := σ) hσ o bits (σ 6 ((18 * o) + (6 * x4_47))) (by omega) (by omega) (by omega) q3) dX12_usesOf_81 mX12_359 rfl (by decide) (by decide) (Nat.le_of_ble_eq_true rfl) (Nat.le_refl _) (fun r81 hr81 pr81 => ?_)
            refine zr_aload_n (pc := 84) hV dX12_usesOf_84 rfl rfl ?_
            refine zr_iload_n (pc := 85) hV dX12_usesOf_85 rfl rfl ?_
            refine zr_iload_n (pc := 86) hV dX12_usesOf_86 rfl rfl ?_
            refine zr_aload_n (pc := 87) hV dX12_usesOf_87 rfl rfl ?_
            refine zr_getR (pc := 88) hV 9 6 dX12_usesOf_88 fX12_35 rfl rfl rfl (by decide) (zx_g9 hσ) (by omega) ?_
            refine zr_iload (pc := 91) hV dX12_usesOf_91 rfl ?_
            refine zr_iconst (pc := 93) hV 1 dX12_usesOf_93 rfl ?_
            refine zr_iadd (pc := 94) hV dX12_usesOf_94 ?_
            refine zr_iald (pc := 95) hV dX12_usesOf_95 rfl (by decide) rfl (by omega) ?_
            have t21 := zx_ac1 hσ (((18 * o) + (6 * x4_47)) + 1) (by omega)
            refine zr_callVp (pc := 96) hV [ZI o, ZI bits, ZI (σ 6 (((18 * o) + (6 * x4_47)) + 1))] (st := [ZI r81, ZI x3_47]) (c_X12_operandOf (σ := σ) hσ o bits (σ 6 (((18 * o) + (6 * x4_47)) + 1)) (by omega) (by omega) (by omega) q3) dX12_usesOf_96 mX12_362 rfl (by decide) (by decide) (Nat.le_of_ble_eq_true rfl) (Nat.le_refl _) (fun r96 hr96 pr96 => ?_)
            refine zr_ior (pc := 99) hV dX12_usesOf_99 ?_
            have t22 := zq_or_in r81 r96
            refine zr_ior (pc := 100) hV dX12_usesOf_100 ?_
            have t23 := zq_or_in x3_47 (zq_or r81 r96)
            refine zr_istore_n (pc := 101) hV [some (ZR 0), some (ZI o), some (ZI bits), some (ZI (zq_or x3_47 (zq_or r81 r96))), some (ZI x4_47), some (ZI ((18 * o) + (6 * x4_47)))] dX12_usesOf_101 rfl (by decide) rfl rfl ?_
            refine zr_iload_n (pc := 102) hV dX12_usesOf_102 rfl rfl ?_
            refine zr_aload_n (pc := 103) hV dX12_usesOf_103 rfl rfl ?_
            refine zr_getR (pc := 104) hV 9 6 dX12_usesOf_104 fX12_35 rfl rfl rfl (by decide) (zx_g9 hσ) (by omega) ?_
            refine zr_iload (pc := 107) hV dX12_usesOf_107 rfl ?_
            refine zr_iconst (pc := 109) hV 3 dX12_usesOf_109 rfl ?_
            refine zr_iadd (pc := 110) hV dX12_usesOf_110 ?_
            refine zr_iald (pc := 111) hV dX12_usesOf_111 rfl (by decide) rfl (by omega) ?_
            have t24 := zx_ac3 hσ (((18 * o) + (6 * x4_47)) + 3) (by omega)
            refine zr_if_le (pc := 112) hV 133 dX12_usesOf_112 (by decide) (by omega) (fun c25 => ?_) (fun c25 => ?_)
            · show V 133 [some (ZR 0), some (ZI o), some (ZI bits), some (ZI (zq_or x3_47 (zq_or r81 r96))), some (ZI x4_47), some (ZI ((18 * o) + (6 * x4_47)))] [ZI (zq_or x3_47 (zq_or r81 r96))] 41 σ
              refine zr_iconst (pc := 133) hV 0 dX12_usesOf_133 rfl ?_
              show V 134 [some (ZR 0), some (ZI o), some (ZI bits), some (ZI (zq_or x3_47 (zq_or r81 r96))), some (ZI x4_47), some (ZI ((18 * o) + (6 * x4_47)))] [ZI 0, ZI (zq_or x3_47 (zq_or r81 r96))] 41 σ
              refine zr_ior (pc := 134) hV dX12_usesOf_134 ?_
              have t26 := zq_or_in (zq_or x3_47 (zq_or r81 r96)) 0
              refine zr_istore_n (pc := 135) hV [some (ZR 0), some (ZI o), some (ZI bits), some (ZI (zq_or (zq_or x3_47 (zq_or r81 r96)) 0)), some (ZI x4_47), some (ZI ((18 * o) + (6 * x4_47)))] dX12_usesOf_135 rfl (by decide) rfl rfl ?_
              refine zr_iinc (pc := 136) hV [some (ZR 0), some (ZI o), some (ZI bits), some (ZI (zq_or (zq_or x3_47 (zq_or r81 r96)) 0)), some (ZI (x4_47 + 1)), some (ZI ((18 * o) + (6 * x4_47)))] (x4_47 + 1) dX12_usesOf_136 rfl rfl (by decide) rfl rfl ?_
              refine zr_goto (pc := 139) hV 47 dX12_usesOf_139 (by decide) ?_
              refine zr_sub (pc := 47) hV [some (ZR 0), some (ZI o), some (ZI bits), some (ZI (zq_or (zq_or x3_47 (zq_or r81 r96)) 0)), some (ZI (x4_47 + 1)), none] (⟨rfl, rfl, rfl, rfl, rfl, trivial⟩) ?_
              exact ih47 (zq_or (zq_or x3_47 (zq_or r81 r96)) 0) (x4_47 + 1) (by omega) (by omega) (by omega)
            · show V 115 [some (ZR 0), some (ZI o), some (ZI bits), some (ZI (zq_or x3_47 (zq_or r81 r96))), some (ZI x4_47), some (ZI ((18 * o) + (6 * x4_47)))] [ZI (zq_or x3_47 (zq_or r81 r96))] 41 σ
              refine zr_aload_n (pc := 115) hV dX12_usesOf_115 rfl rfl ?_
              refine zr_iload_n (pc := 116) hV dX12_usesOf_116 rfl rfl ?_
              refine zr_iload_n (pc := 117) hV dX12_usesOf_117 rfl rfl ?_
              refine zr_aload_n (pc := 118) hV dX12_usesOf_118 rfl rfl ?_
              refine zr_getR (pc := 119) hV 9 6 dX12_usesOf_119 fX12_35 rfl rfl rfl (by decide) (zx_g9 hσ) (by omega) ?_
              refine zr_iload (pc := 122) hV dX12_usesOf_122 rfl ?_
              refine zr_iconst (pc := 124) hV 4 dX12_usesOf_124 rfl ?_
              refine zr_iadd (pc := 125) hV dX12_usesOf_125 ?_
              refine zr_iald (pc := 126) hV dX12_usesOf_126 rfl (by decide) rfl (by omega) ?_
              have t27 := zx_ac4 hσ (((18 * o) + (6 * x4_47)) + 4) (by omega)
              have za := q2 x4_47 (by omega) (by omega)
              refine zr_callVp (pc := 127) hV [ZI o, ZI bits, ZI (σ 6 (((18 * o) + (6 * x4_47)) + 4))] (st := [ZI (zq_or x3_47 (zq_or r81 r96))]) (c_X12_operandOf (σ := σ) hσ o bits (σ 6 (((18 * o) + (6 * x4_47)) + 4)) (by omega) (by omega) (by omega) q3) dX12_usesOf_127 mX12_362 rfl (by decide) (by decide) (Nat.le_of_ble_eq_true rfl) (Nat.le_refl _) (fun r127 hr127 pr127 => ?_)
              refine zr_goto (pc := 130) hV 134 dX12_usesOf_130 (by decide) ?_
              show V 134 [some (ZR 0), some (ZI o), some (ZI bits), some (ZI (zq_or x3_47 (zq_or r81 r96))), some (ZI x4_47), some (ZI ((18 * o) + (6 * x4_47)))] [ZI r127, ZI (zq_or x3_47 (zq_or r81 r96))] 41 σ
              refine zr_ior (pc := 134) hV dX12_usesOf_134 ?_
              have t28 := zq_or_in (zq_or x3_47 (zq_or r81 r96)) r127
              refine zr_istore_n (pc := 135) hV [some (ZR 0), some (ZI o), some (ZI bits), some (ZI (zq_or (zq_or x3_47 (zq_or r81 r96)) r127)), some (ZI x4_47), some (ZI ((18 * o) + (6 * x4_47)))] dX12_usesOf_135 rfl (by decide) rfl rfl ?_
              refine zr_iinc (pc := 136) hV [some (ZR 0), some (ZI o), some (ZI bits), some (ZI (zq_or (zq_or x3_47 (zq_or r81 r96)) r127)), some (ZI (x4_47 + 1)), some (ZI ((18 * o) + (6 * x4_47)))] (x4_47 + 1) dX12_usesOf_136 rfl rfl (by decide) rfl rfl ?_
              refine zr_goto (pc := 139) hV 47 dX12_usesOf_139 (by decide) ?_
              refine zr_sub (pc := 47) hV [some (ZR 0), some (ZI o), some (ZI bits), some (ZI (zq_or (zq_or x3_47 (zq_or r81 r96)) r127)), some (ZI (x4_47 + 1)), none] (⟨rfl, rfl, rfl, rfl, rfl, trivial⟩) ?_
              exact ih47 (zq_or (zq_or x3_47 (zq_or r81 r96)) r127) (x4_47 + 1) (by omega) (by omega) (by omega)
      exact L47 (3 - (0 : Int) + 1 : Int).toNat 512 0 (by omega) (by omega) (by omega)
  · show V 9 [some (ZR 0), some (ZI o), some (ZI bits), none, none, none] [] 41 σ
    refine zr_iconst (pc := 9) hV 0 dX12_usesOf_9 rfl ?_
    refine zr_goto (pc := 10) hV 43 dX12_usesOf_10 (by decide) ?_
    show V 43 [some (ZR 0), some (ZI o), some (ZI bits), none, none, none] [ZI 0] 41 σ
    refine zr_istore_n (pc := 43) hV [some (ZR 0), some (ZI o), some (ZI bits), some (ZI 0), none, none] dX12_usesOf_43 rfl (by decide) rfl rfl ?_
    refine zr_iconst (pc := 44) hV 0 dX12_usesOf_44 rfl ?_
    refine zr_istore (pc := 45) hV [some (ZR 0), some (ZI o), some (ZI bits), some (ZI 0), some (ZI 0), none] dX12_usesOf_45 (by decide) rfl rfl ?_
    have L47 : ∀ (fuel : Nat) (x3_47 : Int) (x4_47 : Int), ((-2147483648) ≤ x3_47 ∧ x3_47 ≤ 2147483647) → (0 ≤ x4_47 ∧ x4_47 ≤ 3) → 3 - x4_47 < (fuel : Int) → V 47 [some (ZR 0), some (ZI o), some (ZI bits), some (ZI x3_47), some (ZI x4_47), none] [] 41 σ := by
      intro fuel
      induction fuel with
      | zero =>
        intro x3_47 x4_47 hx3_47 hx4_47 hm47
        exfalso; omega
      | succ fuel ih =>
        intro x3_47 x4_47 hx3_47 hx4_47 hm47
        have ih47 := ih
        show V 47 [some (ZR 0), some (ZI o), some (ZI bits), some (ZI x3_47), some (ZI x4_47), none] [] 41 σ
        refine zr_iload (pc := 47) hV dX12_usesOf_47 rfl ?_
        refine zr_aload_n (pc := 49) hV dX12_usesOf_49 rfl rfl ?_
        refine zr_getR (pc := 50) hV 8 5 dX12_usesOf_50 fX12_32 rfl rfl rfl (by decide) (zx_g8 hσ) (by omega) ?_
        refine zr_iload_n (pc := 53) hV dX12_usesOf_53 rfl rfl ?_
        refine zr_iald (pc := 54) hV dX12_usesOf_54 rfl (by decide) rfl (by omega) ?_
        have t29 := zx_ga5 hσ o
        refine zr_icmp_ge (pc := 55) hV 142 dX12_usesOf_55 (by decide) (by omega) (by omega) (fun c30 => ?_) (fun c30 => ?_)
        · show V 142 [some (ZR 0), some (ZI o), some (ZI bits), some (ZI x3_47), some (ZI x4_47), none] [] 41 σ
          refine zr_iload_n (pc := 142) hV dX12_usesOf_142 rfl rfl ?_
          exact zr_iret (pc := 143) hV dX12_usesOf_143 rfl rfl ⟨rfl, _, rfl, (by omega), trivial⟩
        · show V 58 [some (ZR 0), some (ZI o), some (ZI bits), some (ZI x3_47), some (ZI x4_47), none] [] 41 σ
          refine zr_bipush (pc := 58) hV 18 dX12_usesOf_58 (by decide) ?_
          refine zr_iload_n (pc := 60) hV dX12_usesOf_60 rfl rfl ?_
          refine zr_imul (pc := 61) hV dX12_usesOf_61 ?_
          refine zr_bipush (pc := 62) hV 6 dX12_usesOf_62 (by decide) ?_
          refine zr_iload (pc := 64) hV dX12_usesOf_64 rfl ?_
          refine zr_imul (pc := 66) hV dX12_usesOf_66 ?_
          refine zr_iadd (pc := 67) hV dX12_usesOf_67 ?_
          refine zr_istore (pc := 68) hV [some (ZR 0), some (ZI o), some (ZI bits), some (ZI x3_47), some (ZI x4_47), some (ZI ((18 * o) + (6 * x4_47)))] dX12_usesOf_68 (by decide) rfl rfl ?_
          refine zr_iload_n (pc := 70) hV dX12_usesOf_70 rfl rfl ?_
          refine zr_aload_n (pc := 71) hV dX12_usesOf_71 rfl rfl ?_
          refine zr_iload_n (pc := 72) hV dX12_usesOf_72 rfl rfl ?_
          refine zr_iload_n (pc := 73) hV dX12_usesOf_73 rfl rfl ?_
          refine zr_aload_n (pc := 74) hV dX12_usesOf_74 rfl rfl ?_
          refine zr_getR (pc := 75) hV 9 6 dX12_usesOf_75 fX12_35 rfl rfl rfl (by decide) (zx_g9 hσ) (by omega) ?_
          refine zr_iload (pc := 78) hV dX12_usesOf_78 rfl ?_
          refine zr_iald (pc := 80) hV dX12_usesOf_80 rfl (by decide) rfl (by omega) ?_
          have t31 := zx_ac0 hσ ((18 * o) + (6 * x4_47)) (by omega)
          refine zr_callVp (pc := 81) hV [ZI o, ZI bits, ZI (σ 6 ((18 * o) + (6 * x4_47)))] (st := [ZI x3_47]) (c_X12_inBrackets (σ := σ) hσ o bits (σ 6 ((18 * o) + (6 * x4_47))) (by omega) (by omega) (by omega) q3) dX12_usesOf_81 mX12_359 rfl (by decide) (by decide) (Nat.le_of_ble_eq_true rfl) (Nat.le_refl _) (fun r81 hr81 pr81 => ?_)
          refine zr_aload_n (pc := 84) hV dX12_usesOf_84 rfl rfl ?_
          refine zr_iload_n (pc := 85) hV dX12_usesOf_85 rfl rfl ?_
          refine zr_iload_n (pc := 86) hV dX12_usesOf_86 rfl rfl ?_
          refine zr_aload_n (pc := 87) hV dX12_usesOf_87 rfl rfl ?_
          refine zr_getR (pc := 88) hV 9 6 dX12_usesOf_88 fX12_35 rfl rfl rfl (by decide) (zx_g9 hσ) (by omega) ?_
          refine zr_iload (pc := 91) hV dX12_usesOf_91 rfl ?_
          refine zr_iconst (pc := 93) hV 1 dX12_usesOf_93 rfl ?_
          refine zr_iadd (pc := 94) hV dX12_usesOf_94 ?_
          refine zr_iald (pc := 95) hV dX12_usesOf_95 rfl (by decide) rfl (by omega) ?_
          have t32 := zx_ac1 hσ (((18 * o) + (6 * x4_47)) + 1) (by omega)
          refine zr_callVp (pc := 96) hV [ZI o, ZI bits, ZI (σ 6 (((18 * o) + (6 * x4_47)) + 1))] (st := [ZI r81, ZI x3_47]) (c_X12_operandOf (σ := σ) hσ o bits (σ 6 (((18 * o) + (6 * x4_47)) + 1)) (by omega) (by omega) (by omega) q3) dX12_usesOf_96 mX12_362 rfl (by decide) (by decide) (Nat.le_of_ble_eq_true rfl) (Nat.le_refl _) (fun r96 hr96 pr96 => ?_)
          refine zr_ior (pc := 99) hV dX12_usesOf_99 ?_
          have t33 := zq_or_in r81 r96
          refine zr_ior (pc := 100) hV dX12_usesOf_100 ?_
          have t34 := zq_or_in x3_47 (zq_or r81 r96)
          refine zr_istore_n (pc := 101) hV [some (ZR 0), some (ZI o), some (ZI bits), some (ZI (zq_or x3_47 (zq_or r81 r96))), some (ZI x4_47), some (ZI ((18 * o) + (6 * x4_47)))] dX12_usesOf_101 rfl (by decide) rfl rfl ?_
          refine zr_iload_n (pc := 102) hV dX12_usesOf_102 rfl rfl ?_
          refine zr_aload_n (pc := 103) hV dX12_usesOf_103 rfl rfl ?_
          refine zr_getR (pc := 104) hV 9 6 dX12_usesOf_104 fX12_35 rfl rfl rfl (by decide) (zx_g9 hσ) (by omega) ?_
          refine zr_iload (pc := 107) hV dX12_usesOf_107 rfl ?_
          refine zr_iconst (pc := 109) hV 3 dX12_usesOf_109 rfl ?_
          refine zr_iadd (pc := 110) hV dX12_usesOf_110 ?_
          refine zr_iald (pc := 111) hV dX12_usesOf_111 rfl (by decide) rfl (by omega) ?_
          have t35 := zx_ac3 hσ (((18 * o) + (6 * x4_47)) + 3) (by omega)
          refine zr_if_le (pc := 112) hV 133 dX12_usesOf_112 (by decide) (by omega) (fun c36 => ?_) (fun c36 => ?_)
          · show V 133 [some (ZR 0), some (ZI o), some (ZI bits), some (ZI (zq_or x3_47 (zq_or r81 r96))), some (ZI x4_47), some (ZI ((18 * o) + (6 * x4_47)))] [ZI (zq_or x3_47 (zq_or r81 r96))] 41 σ
            refine zr_iconst (pc := 133) hV 0 dX12_usesOf_133 rfl ?_
            show V 134 [some (ZR 0), some (ZI o), some (ZI bits), some (ZI (zq_or x3_47 (zq_or r81 r96))), some (ZI x4_47), some (ZI ((18 * o) + (6 * x4_47)))] [ZI 0, ZI (zq_or x3_47 (zq_or r81 r96))] 41 σ
            refine zr_ior (pc := 134) hV dX12_usesOf_134 ?_
            have t37 := zq_or_in (zq_or x3_47 (zq_or r81 r96)) 0
            refine zr_istore_n (pc := 135) hV [some (ZR 0), some (ZI o), some (ZI bits), some (ZI (zq_or (zq_or x3_47 (zq_or r81 r96)) 0)), some (ZI x4_47), some (ZI ((18 * o) + (6 * x4_47)))] dX12_usesOf_135 rfl (by decide) rfl rfl ?_
            refine zr_iinc (pc := 136) hV [some (ZR 0), some (ZI o), some (ZI bits), some (ZI (zq_or (zq_or x3_47 (zq_or r81 r96)) 0)), some (ZI (x4_47 + 1)), some (ZI ((18 * o) + (6 * x4_47)))] (x4_47 + 1) dX12_usesOf_136 rfl rfl (by decide) rfl rfl ?_
            refine zr_goto (pc := 139) hV 47 dX12_usesOf_139 (by decide) ?_
            refine zr_sub (pc := 47) hV [some (ZR 0), some (ZI o), some (ZI bits), some (ZI (zq_or (zq_or x3_47 (zq_or r81 r96)) 0)), some (ZI (x4_47 + 1)), none] (⟨rfl, rfl, rfl, rfl, rfl, trivial⟩) ?_
            exact ih47 (zq_or (zq_or x3_47 (zq_or r81 r96)) 0) (x4_47 + 1) (by omega) (by omega) (by omega)
          · show V 115 [some (ZR 0), some (ZI o), some (ZI bits), some (ZI (zq_or x3_47 (zq_or r81 r96))), some (ZI x4_47), some (ZI ((18 * o) + (6 * x4_47)))] [ZI (zq_or x3_47 (zq_or r81 r96))] 41 σ
            refine zr_aload_n (pc := 115) hV dX12_usesOf_115 rfl rfl ?_
            refine zr_iload_n (pc := 116) hV dX12_usesOf_116 rfl rfl ?_
            refine zr_iload_n (pc := 117) hV dX12_usesOf_117 rfl rfl ?_
            refine zr_aload_n (pc := 118) hV dX12_usesOf_118 rfl rfl ?_
            refine zr_getR (pc := 119) hV 9 6 dX12_usesOf_119 fX12_35 rfl rfl rfl (by decide) (zx_g9 hσ) (by omega) ?_
            refine zr_iload (pc := 122) hV dX12_usesOf_122 rfl ?_
            refine zr_iconst (pc := 124) hV 4 dX12_usesOf_124 rfl ?_
            refine zr_iadd (pc := 125) hV dX12_usesOf_125 ?_
            refine zr_iald (pc := 126) hV dX12_usesOf_126 rfl (by decide) rfl (by omega) ?_
            have t38 := zx_ac4 hσ (((18 * o) + (6 * x4_47)) + 4) (by omega)
            have za := q2 x4_47 (by omega) (by omega)
            refine zr_callVp (pc := 127) hV [ZI o, ZI bits, ZI (σ 6 (((18 * o) + (6 * x4_47)) + 4))] (st := [ZI (zq_or x3_47 (zq_or r81 r96))]) (c_X12_operandOf (σ := σ) hσ o bits (σ 6 (((18 * o) + (6 * x4_47)) + 4)) (by omega) (by omega) (by omega) q3) dX12_usesOf_127 mX12_362 rfl (by decide) (by decide) (Nat.le_of_ble_eq_true rfl) (Nat.le_refl _) (fun r127 hr127 pr127 => ?_)
            refine zr_goto (pc := 130) hV 134 dX12_usesOf_130 (by decide) ?_
            show V 134 [some (ZR 0), some (ZI o), some (ZI bits), some (ZI (zq_or x3_47 (zq_or r81 r96))), some (ZI x4_47), some (ZI ((18 * o) + (6 * x4_47)))] [ZI r127, ZI (zq_or x3_47 (zq_or r81 r96))] 41 σ
            refine zr_ior (pc := 134) hV dX12_usesOf_134 ?_
            have t39 := zq_or_in (zq_or x3_47 (zq_or r81 r96)) r127
            refine zr_istore_n (pc := 135) hV [some (ZR 0), some (ZI o), some (ZI bits), some (ZI (zq_or (zq_or x3_47 (zq_or r81 r96)) r127)), some (ZI x4_47), some (ZI ((18 * o) + (6 * x4_47)))] dX12_usesOf_135 rfl (by decide) rfl rfl ?_
            refine zr_iinc (pc := 136) hV [some (ZR 0), some (ZI o), some (ZI bits), some (ZI (zq_or (zq_or x3_47 (zq_or r81 r96)) r127)), some (ZI (x4_47 + 1)), some (ZI ((18 * o) + (6 * x4_47)))] (x4_47 + 1) dX12_usesOf_136 rfl rfl (by decide) rfl rfl ?_
            refine zr_goto (pc := 139) hV 47 dX12_usesOf_139 (by decide) ?_
            refine zr_sub (pc := 47) hV [some (ZR 0), some (ZI o), some (ZI bits), some (ZI (zq_or (zq_or x3_47 (zq_or r81 r96)) r127)), some (ZI (x4_47 + 1)), none] (⟨rfl, rfl, rfl, rfl, rfl, trivial⟩) ?_
            exact ih47 (zq_or (zq_or x3_47 (zq_or r81 r96)) r127) (x4_47 + 1) (by omega) (by omega) (by omega)
    exact L47 (3 - (0 : Int) + 1 : Int).toNat 0 0 (by omega) (by omega) (by omega)
set_option maxHeartbeats 800000 in
theorem c_X12_doStep {σ : zq_S} (hσ : zx_T σ) (keeps : Int) (q0 : 0 ≤ keeps ∧ keeps ≤ 1) (Mσ : zx_M σ) (Oσ : zx_O σ) (Kσ : zx_K σ) : zq_C zx_w yX12_doStep cX12_doStep 7 (some .boolean) 4 101 41 41 [ZR 0, ZI keeps] σ (zq_pi (fun r τ => zx_T τ ∧ (∀ a i : Int, (¬ (a = 0 ∧ i = 26) ∧ ¬ (a = 0 ∧ i = 27) ∧ ¬ (a = 0 ∧ i = 30) ∧ a ≠ 15 ∧ a ≠ 16 ∧ a ≠ 18) → τ a i = σ a i) ∧ ((r = 0 ∨ r = 1)) ∧ zx_M τ ∧ zx_O τ ∧ zx_K τ)) := by
  refine zq_C_of (by decide) (Nat.le_refl _) (Nat.le_of_ble_eq_true rfl) [some (ZR 0), some (ZI keeps), none, none, none, none, none] rfl (fun V hV => ?_)
  show V 0 [some (ZR 0), some (ZI keeps), none, none, none, none, none] [] 41 σ
  refine zr_aload_n (pc := 0) hV dX12_doStep_0 rfl rfl ?_
  refine zr_getR (pc := 1) hV 24 15 dX12_doStep_1 fX12_62 rfl rfl rfl (by decide) (zx_g24 hσ) (by omega) ?_
  refine zr_sipush (pc := 4) hV 265 dX12_doStep_4 (by decide) ?_
  refine zr_iald (pc := 7) hV dX12_doStep_7 rfl (by decide) rfl (by omega) ?_
  have t1 := zx_stP hσ
  refine zr_istore_n (pc := 8) hV [some (ZR 0), some (ZI keeps), some (ZI (σ 15 265)), none, none, none, none] dX12_doStep_8 rfl (by decide) rfl rfl ?_
  refine zr_aload_n (pc := 9) hV dX12_doStep_9 rfl rfl ?_
  refine zr_getR (pc := 10) hV 23 14 dX12_doStep_10 fX12_59 rfl rfl rfl (by decide) (zx_g23 hσ) (by omega) ?_
  refine zr_iload_n (pc := 13) hV dX12_doStep_13 rfl rfl ?_
  refine zr_iald (pc := 14) hV dX12_doStep_14 rfl (by decide) rfl (by omega) ?_
  have t2 := zx_ga14 hσ (σ 15 265)
  refine zr_istore_n (pc := 15) hV [some (ZR 0), some (ZI keeps), some (ZI (σ 15 265)), some (ZI (σ 14 (σ 15 265))), none, none, none] dX12_doStep_15 rfl (by decide) rfl rfl ?_
  refine zr_aload_n (pc := 16) hV dX12_doStep_16 rfl rfl ?_
  refine zr_iload_n (pc := 17) hV dX12_doStep_17 rfl rfl ?_
  refine zr_callVi (pc := 18) hV [ZI (σ 14 (σ 15 265))] (st := []) (c_X12_ownerOf (σ := σ) hσ (σ 14 (σ 15 265)) (by omega) Mσ) dX12_doStep_18 mX12_283 rfl (by decide) (by decide) (Nat.le_of_ble_eq_true rfl) (Nat.le_refl _) (fun r18 σ18 hr18 pσ18 => ?_)
  obtain ⟨hσ18, hfσ18, pσ18⟩ := pσ18
  have Mσ18 : zx_M σ18 := pσ18.2.2.2.2.2
  have Oσ18 : zx_O σ18 := zx_O_fr (fun i => hfσ18 2 i (by omega)) (fun i => hfσ18 5 i (by omega)) (fun i => hfσ18 6 i (by omega)) (hfσ18 0 2 (by omega)) (hfσ18 0 3 (by omega)) Oσ
  have Kσ18 : zx_K σ18 := zx_K_fr (fun i => hfσ18 14 i (by omega)) (hfσ18 0 2 (by omega)) Kσ
  have hFσ18 : ∀ a i : Int, (¬ (a = 0 ∧ i = 26) ∧ ¬ (a = 0 ∧ i = 27) ∧ ¬ (a = 0 ∧ i = 30) ∧ a ≠ 15 ∧ a ≠ 16 ∧ a ≠ 18) → σ18 a i = σ a i := fun a i h => (hfσ18 a i ⟨h.2.2.1, h.2.2.2.2.2⟩)
  have t3 := zx_g30 hσ
  have t4 := zx_g30 hσ18
  have zk := Kσ (σ 15 265) (by omega) (by omega)
  have z2 := hfσ18 0 2 (by omega)
  have z3 := hfσ18 0 3 (by omega)
  have zo : σ18 18 (σ 14 (σ 15 265)) < σ18 0 3 := Mσ18 pσ18.2.2.2.1 (σ 14 (σ 15 265)) (by omega) (by rw [z2]; exact zk)
  have z33 := zx_g3 hσ
  refine zr_istore (pc := 21) hV [some (ZR 0), some (ZI keeps), some (ZI (σ 15 265)), some (ZI (σ 14 (σ 15 265))), some (ZI r18), none, none] dX12_doStep_21 (by decide) rfl rfl ?_
  refine zr_iload (pc := 23) hV dX12_doStep_23 rfl ?_
  refine zr_if_ge (pc := 25) hV 30 dX12_doStep_25 (by decide) (by omega) (fun c5 => ?_) (fun c5 => ?_)
  · show V 30 [some (ZR 0), some (ZI keeps), some (ZI (σ 15 265)), some (ZI (σ 14 (σ 15 265))), some (ZI r18), none, none] [] 41 σ18
    refine zr_iload_n (pc := 30) hV dX12_doStep_30 rfl rfl ?_
    have J38 : ∀ (σ_38 : zq_S), (zx_T σ_38) → (∀ a i : Int, (¬ (a = 0 ∧ i = 26) ∧ ¬ (a = 0 ∧ i = 27) ∧ ¬ (a = 0 ∧ i = 30) ∧ a ≠ 15 ∧ a ≠ 16 ∧ a ≠ 18) → σ_38 a i = σ a i) → (zx_M σ_38) → (zx_O σ_38) → (zx_K σ_38) → V 38 [some (ZR 0), none, some (ZI (σ 15 265)), some (ZI (σ 14 (σ 15 265))), some (ZI r18), none, none] [] 41 σ_38 := by
      intro σ_38 hσ_38 hFσ_38 Mσ_38 Oσ_38 Kσ_38
      show V 38 [some (ZR 0), none, some (ZI (σ 15 265)), some (ZI (σ 14 (σ 15 265))), some (ZI r18), none, none] [] 41 σ_38
      refine zr_aload_n (pc := 38) hV dX12_doStep_38 rfl rfl ?_
      refine zr_getR (pc := 39) hV 24 15 dX12_doStep_39 fX12_62 rfl rfl rfl (by decide) (zx_g24 hσ_38) (by omega) ?_
      refine zr_sipush (pc := 42) hV 270 dX12_doStep_42 (by decide) ?_
      refine zr_iald (pc := 45) hV dX12_doStep_45 rfl (by decide) rfl (by omega) ?_
      have t6 := zx_st hσ_38 270
      have J80 : ∀ (v0_80 : Int), (0 ≤ v0_80 ∧ v0_80 ≤ 2147483647) → V 80 [some (ZR 0), none, some (ZI (σ 15 265)), some (ZI (σ 14 (σ 15 265))), some (ZI r18), none, none] [ZI v0_80] 41 σ_38 := by
        intro v0_80 hv0_80
        show V 80 [some (ZR 0), none, some (ZI (σ 15 265)), some (ZI (σ 14 (σ 15 265))), some (ZI r18), none, none] [ZI v0_80] 41 σ_38
        refine zr_istore (pc := 80) hV [some (ZR 0), none, some (ZI (σ 15 265)), some (ZI (σ 14 (σ 15 265))), some (ZI r18), some (ZI v0_80), none] dX12_doStep_80 (by decide) rfl rfl ?_
        refine zr_aload_n (pc := 82) hV dX12_doStep_82 rfl rfl ?_
        refine zr_getR (pc := 83) hV 24 15 dX12_doStep_83 fX12_62 rfl rfl rfl (by decide) (zx_g24 hσ_38) (by omega) ?_
        refine zr_sipush (pc := 86) hV 270 dX12_doStep_86 (by decide) ?_
        refine zr_aload_n (pc := 89) hV dX12_doStep_89 rfl rfl ?_
        refine zr_getR (pc := 90) hV 10 7 dX12_doStep_90 fX12_38 rfl rfl rfl (by decide) (zx_g10 hσ_38) (by omega) ?_
        refine zr_iload (pc := 93) hV dX12_doStep_93 rfl ?_
        refine zr_iald (pc := 95) hV dX12_doStep_95 rfl (by decide) rfl (by omega) ?_
        have t7 := zx_ga7 hσ_38 r18
        have t8 : σ_38 7 r18 = σ 7 r18 := hFσ_38 _ _ (by omega)
        refine zr_iconst (pc := 96) hV 1 dX12_doStep_96 rfl ?_
        refine zr_isub (pc := 97) hV dX12_doStep_97 ?_
        refine zr_iast (pc := 98) hV dX12_doStep_98 rfl (by decide) rfl (by omega) (fun σ98 eσ98 => ?_)
        have hσ98 : zx_T σ98 := zx_ua15 eσ98 hσ_38 (by omega)
        have hFσ98 : ∀ a i : Int, (¬ (a = 0 ∧ i = 26) ∧ ¬ (a = 0 ∧ i = 27) ∧ ¬ (a = 0 ∧ i = 30) ∧ a ≠ 15 ∧ a ≠ 16 ∧ a ≠ 18) → σ98 a i = σ a i := fun a i h => by rw [eσ98, zq_up_ne (fun q => h.2.2.2.1 q.1)]; exact hFσ_38 a i h
        have Mσ98 : zx_M σ98 := zx_M_fr (fun i => by rw [eσ98]; exact zq_up_ne (by omega)) (by rw [eσ98]; exact zq_up_ne (by omega)) (by rw [eσ98]; exact zq_up_ne (by omega)) (by rw [eσ98]; exact zq_up_ne (by omega)) Mσ_38
        have Oσ98 : zx_O σ98 := zx_O_fr (fun i => by rw [eσ98]; exact zq_up_ne (by omega)) (fun i => by rw [eσ98]; exact zq_up_ne (by omega)) (fun i => by rw [eσ98]; exact zq_up_ne (by omega)) (by rw [eσ98]; exact zq_up_ne (by omega)) (by rw [eσ98]; exact zq_up_ne (by omega)) Oσ_38
        have Kσ98 : zx_K σ98 := zx_K_fr (fun i => by rw [eσ98]; exact zq_up_ne (by omega)) (by rw [eσ98]; exact zq_up_ne (by omega)) Kσ_38
        refine zr_aload_n (pc := 99) hV dX12_doStep_99 rfl rfl ?_
        refine zr_getR (pc := 100) hV 24 15 dX12_doStep_100 fX12_62 rfl rfl rfl (by decide) (zx_g24 hσ98) (by omega) ?_
        refine zr_sipush (pc := 103) hV 271 dX12_doStep_103 (by decide) ?_
        refine zr_aload_n (pc := 106) hV dX12_doStep_106 rfl rfl ?_
        refine zr_iload (pc := 107) hV dX12_doStep_107 rfl ?_
        refine zr_iload_n (pc := 109) hV dX12_doStep_109 rfl rfl ?_
        refine zr_callVp (pc := 110) hV [ZI r18, ZI (σ 14 (σ 15 265))] (st := [ZI 271, ZR 15]) (c_X12_targetsOf (σ := σ98) hσ98 r18 (σ 14 (σ 15 265)) (by omega) (by omega) (zx_B_fr (fun i => hFσ98 2 i (by omega)) (hFσ98 0 2 (by omega)) (Oσ r18 (by omega) (by omega)).2)) dX12_doStep_110 mX12_374 rfl (by decide) (by decide) (Nat.le_of_ble_eq_true rfl) (Nat.le_refl _) (fun r110 hr110 pr110 => ?_)
        refine zr_iast (pc := 113) hV dX12_doStep_113 rfl (by decide) rfl (by omega) (fun σ113 eσ113 => ?_)
        have hσ113 : zx_T σ113 := zx_ua15 eσ113 hσ98 (by omega)
        have hFσ113 : ∀ a i : Int, (¬ (a = 0 ∧ i = 26) ∧ ¬ (a = 0 ∧ i = 27) ∧ ¬ (a = 0 ∧ i = 30) ∧ a ≠ 15 ∧ a ≠ 16 ∧ a ≠ 18) → σ113 a i = σ a i := fun a i h => by rw [eσ113, zq_up_ne (fun q => h.2.2.2.1 q.1)]; exact hFσ98 a i h
        have Mσ113 : zx_M σ113 := zx_M_fr (fun i => by rw [eσ113]; exact zq_up_ne (by omega)) (by rw [eσ113]; exact zq_up_ne (by omega)) (by rw [eσ113]; exact zq_up_ne (by omega)) (by rw [eσ113]; exact zq_up_ne (by omega)) Mσ98
        have Oσ113 : zx_O σ113 := zx_O_fr (fun i => by rw [eσ113]; exact zq_up_ne (by omega)) (fun i => by rw [eσ113]; exact zq_up_ne (by omega)) (fun i => by rw [eσ113]; exact zq_up_ne (by omega)) (by rw [eσ113]; exact zq_up_ne (by omega)) (by rw [eσ113]; exact zq_up_ne (by omega)) Oσ98
        have Kσ113 : zx_K σ113 := zx_K_fr (fun i => by rw [eσ113]; exact zq_up_ne (by omega)) (by rw [eσ113]; exact zq_up_ne (by omega)) Kσ98
        refine zr_aload_n (pc := 114) hV dX12_doStep_114 rfl rfl ?_
        refine zr_getR (pc := 115) hV 24 15 dX12_doStep_115 fX12_62 rfl rfl rfl (by decide) (zx_g24 hσ113) (by omega) ?_
        refine zr_sipush (pc := 118) hV 265 dX12_doStep_118 (by decide) ?_
        refine zr_iload_n (pc := 121) hV dX12_doStep_121 rfl rfl ?_
        refine zr_iconst (pc := 122) hV 1 dX12_doStep_122 rfl ?_
        refine zr_iadd (pc := 123) hV dX12_doStep_123 ?_
        refine zr_bipush (pc := 124) hV 64 dX12_doStep_124 (by decide) ?_
        refine zr_irem (pc := 126) hV dX12_doStep_126 ⟨by decide, by decide⟩ (by omega) ?_
        have t9 := zq_rem_c (x := (σ 15 265) + 1) 64 (by decide) (by omega)
        refine zr_iast (pc := 127) hV dX12_doStep_127 rfl (by decide) rfl (by omega) (fun σ127 eσ127 => ?_)
        have hσ127 : zx_T σ127 := zx_ua15 eσ127 hσ113 (by omega)
        have hFσ127 : ∀ a i : Int, (¬ (a = 0 ∧ i = 26) ∧ ¬ (a = 0 ∧ i = 27) ∧ ¬ (a = 0 ∧ i = 30) ∧ a ≠ 15 ∧ a ≠ 16 ∧ a ≠ 18) → σ127 a i = σ a i := fun a i h => by rw [eσ127, zq_up_ne (fun q => h.2.2.2.1 q.1)]; exact hFσ113 a i h
        have Mσ127 : zx_M σ127 := zx_M_fr (fun i => by rw [eσ127]; exact zq_up_ne (by omega)) (by rw [eσ127]; exact zq_up_ne (by omega)) (by rw [eσ127]; exact zq_up_ne (by omega)) (by rw [eσ127]; exact zq_up_ne (by omega)) Mσ113
        have Oσ127 : zx_O σ127 := zx_O_fr (fun i => by rw [eσ127]; exact zq_up_ne (by omega)) (fun i => by rw [eσ127]; exact zq_up_ne (by omega)) (fun i => by rw [eσ127]; exact zq_up_ne (by omega)) (by rw [eσ127]; exact zq_up_ne (by omega)) (by rw [eσ127]; exact zq_up_ne (by omega)) Oσ113
        have Kσ127 : zx_K σ127 := zx_K_fr (fun i => by rw [eσ127]; exact zq_up_ne (by omega)) (by rw [eσ127]; exact zq_up_ne (by omega)) Kσ113
        refine zr_aload_n (pc := 128) hV dX12_doStep_128 rfl rfl ?_
        refine zr_iload (pc := 129) hV dX12_doStep_129 rfl ?_
        refine zr_iload_n (pc := 131) hV dX12_doStep_131 rfl rfl ?_
        refine zr_callVv (pc := 132) hV [ZI r18, ZI (σ 14 (σ 15 265))] (st := []) (c_X12_doOrder (σ := σ127) hσ127 r18 (σ 14 (σ 15 265)) (by omega) (by omega) (zx_A_fr (fun i => hFσ127 5 i (by omega)) (fun i => hFσ127 6 i (by omega)) (Oσ r18 (by omega) (by omega)).1) (zx_B_fr (fun i => hFσ127 2 i (by omega)) (hFσ127 0 2 (by omega)) (Oσ r18 (by omega) (by omega)).2)) dX12_doStep_132 mX12_377 rfl (by decide) (by decide) (Nat.le_of_ble_eq_true rfl) (Nat.le_refl _) (fun σ132 pσ132 => ?_)
        obtain ⟨hσ132, hfσ132, pσ132⟩ := pσ132
        have Mσ132 : zx_M σ132 := zx_M_fr (fun i => hfσ132 18 i (by omega)) (hfσ132 0 30 (by omega)) (hfσ132 0 2 (by omega)) (hfσ132 0 3 (by omega)) Mσ127
        have Oσ132 : zx_O σ132 := zx_O_fr (fun i => hfσ132 2 i (by omega)) (fun i => hfσ132 5 i (by omega)) (fun i => hfσ132 6 i (by omega)) (hfσ132 0 2 (by omega)) (hfσ132 0 3 (by omega)) Oσ127
        have Kσ132 : zx_K σ132 := zx_K_fr (fun i => hfσ132 14 i (by omega)) (hfσ132 0 2 (by omega)) Kσ127
        have hFσ132 : ∀ a i : Int, (¬ (a = 0 ∧ i = 26) ∧ ¬ (a = 0 ∧ i = 27) ∧ ¬ (a = 0 ∧ i = 30) ∧ a ≠ 15 ∧ a ≠ 16 ∧ a ≠ 18) → σ132 a i = σ a i := fun a i h => (hfσ132 a i h.2.2.2.1).trans (hFσ127 a i h)
        refine zr_aload_n (pc := 135) hV dX12_doStep_135 rfl rfl ?_
        refine zr_getR (pc := 136) hV 24 15 dX12_doStep_136 fX12_62 rfl rfl rfl (by decide) (zx_g24 hσ132) (by omega) ?_
        refine zr_sipush (pc := 139) hV 272 dX12_doStep_139 (by decide) ?_
        refine zr_iload_n (pc := 142) hV dX12_doStep_142 rfl rfl ?_
        refine zr_iadd (pc := 143) hV dX12_doStep_143 ?_
        refine zr_iald (pc := 144) hV dX12_doStep_144 rfl (by decide) rfl (by omega) ?_
        have t10 := zx_st hσ132 (272 + (σ 15 265))
        refine zr_aload_n (pc := 145) hV dX12_doStep_145 rfl rfl ?_
        refine zr_getR (pc := 146) hV 24 15 dX12_doStep_146 fX12_62 rfl rfl rfl (by decide) (zx_g24 hσ132) (by omega) ?_
        refine zr_sipush (pc := 149) hV 265 dX12_doStep_149 (by decide) ?_
        refine zr_iald (pc := 152) hV dX12_doStep_152 rfl (by decide) rfl (by omega) ?_
        have t11 := zx_stP hσ132
        have J161 : ∀ (v0_161 : Int), (0 ≤ v0_161 ∧ v0_161 ≤ 1) → V 161 [some (ZR 0), none, some (ZI (σ 15 265)), none, some (ZI r18), some (ZI v0_80), none] [ZI v0_161] 41 σ132 := by
          intro v0_161 hv0_161
          show V 161 [some (ZR 0), none, some (ZI (σ 15 265)), none, some (ZI r18), some (ZI v0_80), none] [ZI v0_161] 41 σ132
          refine zr_istore (pc := 161) hV [some (ZR 0), none, some (ZI (σ 15 265)), none, some (ZI r18), some (ZI v0_80), some (ZI v0_161)] dX12_doStep_161 (by decide) rfl rfl ?_
          refine zr_aload_n (pc := 163) hV dX12_doStep_163 rfl rfl ?_
          refine zr_getR (pc := 164) hV 24 15 dX12_doStep_164 fX12_62 rfl rfl rfl (by decide) (zx_g24 hσ132) (by omega) ?_
          refine zr_sipush (pc := 167) hV 272 dX12_doStep_167 (by decide) ?_
          refine zr_iload_n (pc := 170) hV dX12_doStep_170 rfl rfl ?_
          refine zr_iadd (pc := 171) hV dX12_doStep_171 ?_
          refine zr_aload_n (pc := 172) hV dX12_doStep_172 rfl rfl ?_
          refine zr_getR (pc := 173) hV 24 15 dX12_doStep_173 fX12_62 rfl rfl rfl (by decide) (zx_g24 hσ132) (by omega) ?_
          refine zr_sipush (pc := 176) hV 265 dX12_doStep_176 (by decide) ?_
          refine zr_iald (pc := 179) hV dX12_doStep_179 rfl (by decide) rfl (by omega) ?_
          have t12 := zx_stP hσ132
          refine zr_iast (pc := 180) hV dX12_doStep_180 rfl (by decide) rfl (by omega) (fun σ180 eσ180 => ?_)
          have hσ180 : zx_T σ180 := zx_ua15 eσ180 hσ132 (by omega)
          have hFσ180 : ∀ a i : Int, (¬ (a = 0 ∧ i = 26) ∧ ¬ (a = 0 ∧ i = 27) ∧ ¬ (a = 0 ∧ i = 30) ∧ a ≠ 15 ∧ a ≠ 16 ∧ a ≠ 18) → σ180 a i = σ a i := fun a i h => by rw [eσ180, zq_up_ne (fun q => h.2.2.2.1 q.1)]; exact hFσ132 a i h
          have Mσ180 : zx_M σ180 := zx_M_fr (fun i => by rw [eσ180]; exact zq_up_ne (by omega)) (by rw [eσ180]; exact zq_up_ne (by omega)) (by rw [eσ180]; exact zq_up_ne (by omega)) (by rw [eσ180]; exact zq_up_ne (by omega)) Mσ132
          have Oσ180 : zx_O σ180 := zx_O_fr (fun i => by rw [eσ180]; exact zq_up_ne (by omega)) (fun i => by rw [eσ180]; exact zq_up_ne (by omega)) (fun i => by rw [eσ180]; exact zq_up_ne (by omega)) (by rw [eσ180]; exact zq_up_ne (by omega)) (by rw [eσ180]; exact zq_up_ne (by omega)) Oσ132
          have Kσ180 : zx_K σ180 := zx_K_fr (fun i => by rw [eσ180]; exact zq_up_ne (by omega)) (by rw [eσ180]; exact zq_up_ne (by omega)) Kσ132
          refine zr_aload_n (pc := 181) hV dX12_doStep_181 rfl rfl ?_
          refine zr_getR (pc := 182) hV 24 15 dX12_doStep_182 fX12_62 rfl rfl rfl (by decide) (zx_g24 hσ180) (by omega) ?_
          refine zr_sipush (pc := 185) hV 266 dX12_doStep_185 (by decide) ?_
          refine zr_dup2 (pc := 188) hV dX12_doStep_188 (fun _ => rfl) (fun _ => rfl) ?_
          refine zr_iald (pc := 189) hV dX12_doStep_189 rfl (by decide) rfl (by omega) ?_
          have t13 := zx_st hσ180 266
          have t14 : σ180 15 266 = σ132 15 266 := by rw [eσ180]; exact zq_up_ne (by omega)
          refine zr_iconst (pc := 190) hV 1 dX12_doStep_190 rfl ?_
          refine zr_iadd (pc := 191) hV dX12_doStep_191 ?_
          refine zr_any (pc := 192) hV (fun y192 hy192 _ => ?_)
          refine zr_iast (pc := 192) hV dX12_doStep_192 rfl (by decide) rfl (by omega) (fun σ192 eσ192 => ?_)
          have hσ192 : zx_T σ192 := zx_ua15 eσ192 hσ180 (by omega)
          have hFσ192 : ∀ a i : Int, (¬ (a = 0 ∧ i = 26) ∧ ¬ (a = 0 ∧ i = 27) ∧ ¬ (a = 0 ∧ i = 30) ∧ a ≠ 15 ∧ a ≠ 16 ∧ a ≠ 18) → σ192 a i = σ a i := fun a i h => by rw [eσ192, zq_up_ne (fun q => h.2.2.2.1 q.1)]; exact hFσ180 a i h
          have Mσ192 : zx_M σ192 := zx_M_fr (fun i => by rw [eσ192]; exact zq_up_ne (by omega)) (by rw [eσ192]; exact zq_up_ne (by omega)) (by rw [eσ192]; exact zq_up_ne (by omega)) (by rw [eσ192]; exact zq_up_ne (by omega)) Mσ180
          have Oσ192 : zx_O σ192 := zx_O_fr (fun i => by rw [eσ192]; exact zq_up_ne (by omega)) (fun i => by rw [eσ192]; exact zq_up_ne (by omega)) (fun i => by rw [eσ192]; exact zq_up_ne (by omega)) (by rw [eσ192]; exact zq_up_ne (by omega)) (by rw [eσ192]; exact zq_up_ne (by omega)) Oσ180
          have Kσ192 : zx_K σ192 := zx_K_fr (fun i => by rw [eσ192]; exact zq_up_ne (by omega)) (by rw [eσ192]; exact zq_up_ne (by omega)) Kσ180
          refine zr_aload_n (pc := 193) hV dX12_doStep_193 rfl rfl ?_
          refine zr_getR (pc := 194) hV 24 15 dX12_doStep_194 fX12_62 rfl rfl rfl (by decide) (zx_g24 hσ192) (by omega) ?_
          refine zr_sipush (pc := 197) hV 267 dX12_doStep_197 (by decide) ?_
          refine zr_dup2 (pc := 200) hV dX12_doStep_200 (fun _ => rfl) (fun _ => rfl) ?_
          refine zr_iald (pc := 201) hV dX12_doStep_201 rfl (by decide) rfl (by omega) ?_
          have t15 := zx_st hσ192 267
          have t16 : σ192 15 267 = σ180 15 267 := by rw [eσ192]; exact zq_up_ne (by omega)
          have t17 : σ180 15 267 = σ132 15 267 := by rw [eσ180]; exact zq_up_ne (by omega)
          refine zr_aload_n (pc := 202) hV dX12_doStep_202 rfl rfl ?_
          refine zr_getR (pc := 203) hV 10 7 dX12_doStep_203 fX12_38 rfl rfl rfl (by decide) (zx_g10 hσ192) (by omega) ?_
          refine zr_iload (pc := 206) hV dX12_doStep_206 rfl ?_
          refine zr_iald (pc := 208) hV dX12_doStep_208 rfl (by decide) rfl (by omega) ?_
          have t18 := zx_ga7 hσ192 r18
          have t19 : σ192 7 r18 = σ180 7 r18 := by rw [eσ192]; exact zq_up_ne (by omega)
          have t20 : σ180 7 r18 = σ132 7 r18 := by rw [eσ180]; exact zq_up_ne (by omega)
          have t21 : σ132 7 r18 = σ127 7 r18 := hfσ132 _ _ (by omega)
          have t22 : σ127 7 r18 = σ113 7 r18 := by rw [eσ127]; exact zq_up_ne (by omega)
          have t23 : σ113 7 r18 = σ98 7 r18 := by rw [eσ113]; exact zq_up_ne (by omega)
          have t24 : σ98 7 r18 = σ_38 7 r18 := by rw [eσ98]; exact zq_up_ne (by omega)
          have t25 : σ_38 7 r18 = σ 7 r18 := hFσ_38 _ _ (by omega)
          refine zr_iload (pc := 209) hV dX12_doStep_209 rfl ?_
          refine zr_iadd (pc := 211) hV dX12_doStep_211 ?_
          refine zr_any (pc := 212) hV (fun y212 hy212 _ => ?_)
          refine zr_iload (pc := 212) hV dX12_doStep_212 rfl ?_
          have J225 : ∀ (v0_225 : Int), ((-2147483648) ≤ v0_225 ∧ v0_225 ≤ 2147483647) → V 225 [some (ZR 0), none, none, none, none, some (ZI v0_80), some (ZI v0_161)] [ZI v0_225, ZI y212, ZI (σ192 15 267), ZI 267, ZR 15] 41 σ192 := by
            intro v0_225 hv0_225
            show V 225 [some (ZR 0), none, none, none, none, some (ZI v0_80), some (ZI v0_161)] [ZI v0_225, ZI y212, ZI (σ192 15 267), ZI 267, ZR 15] 41 σ192
            refine zr_iadd (pc := 225) hV dX12_doStep_225 ?_
            refine zr_any (pc := 226) hV (fun y226 hy226 _ => ?_)
            refine zr_iadd (pc := 226) hV dX12_doStep_226 ?_
            refine zr_any (pc := 227) hV (fun y227 hy227 _ => ?_)
            refine zr_iast (pc := 227) hV dX12_doStep_227 rfl (by decide) rfl (by omega) (fun σ227 eσ227 => ?_)
            have hσ227 : zx_T σ227 := zx_ua15 eσ227 hσ192 (by omega)
            have hFσ227 : ∀ a i : Int, (¬ (a = 0 ∧ i = 26) ∧ ¬ (a = 0 ∧ i = 27) ∧ ¬ (a = 0 ∧ i = 30) ∧ a ≠ 15 ∧ a ≠ 16 ∧ a ≠ 18) → σ227 a i = σ a i := fun a i h => by rw [eσ227, zq_up_ne (fun q => h.2.2.2.1 q.1)]; exact hFσ192 a i h
            have Mσ227 : zx_M σ227 := zx_M_fr (fun i => by rw [eσ227]; exact zq_up_ne (by omega)) (by rw [eσ227]; exact zq_up_ne (by omega)) (by rw [eσ227]; exact zq_up_ne (by omega)) (by rw [eσ227]; exact zq_up_ne (by omega)) Mσ192
            have Oσ227 : zx_O σ227 := zx_O_fr (fun i => by rw [eσ227]; exact zq_up_ne (by omega)) (fun i => by rw [eσ227]; exact zq_up_ne (by omega)) (fun i => by rw [eσ227]; exact zq_up_ne (by omega)) (by rw [eσ227]; exact zq_up_ne (by omega)) (by rw [eσ227]; exact zq_up_ne (by omega)) Oσ192
            have Kσ227 : zx_K σ227 := zx_K_fr (fun i => by rw [eσ227]; exact zq_up_ne (by omega)) (by rw [eσ227]; exact zq_up_ne (by omega)) Kσ192
            refine zr_aload_n (pc := 228) hV dX12_doStep_228 rfl rfl ?_
            refine zr_getR (pc := 229) hV 24 15 dX12_doStep_229 fX12_62 rfl rfl rfl (by decide) (zx_g24 hσ227) (by omega) ?_
            refine zr_sipush (pc := 232) hV 268 dX12_doStep_232 (by decide) ?_
            refine zr_dup2 (pc := 235) hV dX12_doStep_235 (fun _ => rfl) (fun _ => rfl) ?_
            refine zr_iald (pc := 236) hV dX12_doStep_236 rfl (by decide) rfl (by omega) ?_
            have t26 := zx_st hσ227 268
            have t27 : σ227 15 268 = σ192 15 268 := by rw [eσ227]; exact zq_up_ne (by omega)
            have t28 : σ192 15 268 = σ180 15 268 := by rw [eσ192]; exact zq_up_ne (by omega)
            have t29 : σ180 15 268 = σ132 15 268 := by rw [eσ180]; exact zq_up_ne (by omega)
            refine zr_iload (pc := 237) hV dX12_doStep_237 rfl ?_
            refine zr_iadd (pc := 239) hV dX12_doStep_239 ?_
            refine zr_any (pc := 240) hV (fun y240 hy240 _ => ?_)
            refine zr_iast (pc := 240) hV dX12_doStep_240 rfl (by decide) rfl (by omega) (fun σ240 eσ240 => ?_)
            have hσ240 : zx_T σ240 := zx_ua15 eσ240 hσ227 (by omega)
            have hFσ240 : ∀ a i : Int, (¬ (a = 0 ∧ i = 26) ∧ ¬ (a = 0 ∧ i = 27) ∧ ¬ (a = 0 ∧ i = 30) ∧ a ≠ 15 ∧ a ≠ 16 ∧ a ≠ 18) → σ240 a i = σ a i := fun a i h => by rw [eσ240, zq_up_ne (fun q => h.2.2.2.1 q.1)]; exact hFσ227 a i h
            have Mσ240 : zx_M σ240 := zx_M_fr (fun i => by rw [eσ240]; exact zq_up_ne (by omega)) (by rw [eσ240]; exact zq_up_ne (by omega)) (by rw [eσ240]; exact zq_up_ne (by omega)) (by rw [eσ240]; exact zq_up_ne (by omega)) Mσ227
            have Oσ240 : zx_O σ240 := zx_O_fr (fun i => by rw [eσ240]; exact zq_up_ne (by omega)) (fun i => by rw [eσ240]; exact zq_up_ne (by omega)) (fun i => by rw [eσ240]; exact zq_up_ne (by omega)) (by rw [eσ240]; exact zq_up_ne (by omega)) (by rw [eσ240]; exact zq_up_ne (by omega)) Oσ227
            have Kσ240 : zx_K σ240 := zx_K_fr (fun i => by rw [eσ240]; exact zq_up_ne (by omega)) (by rw [eσ240]; exact zq_up_ne (by omega)) Kσ227
            refine zr_aload_n (pc := 241) hV dX12_doStep_241 rfl rfl ?_
            refine zr_getR (pc := 242) hV 24 15 dX12_doStep_242 fX12_62 rfl rfl rfl (by decide) (zx_g24 hσ240) (by omega) ?_
            refine zr_sipush (pc := 245) hV 269 dX12_doStep_245 (by decide) ?_
            refine zr_dup2 (pc := 248) hV dX12_doStep_248 (fun _ => rfl) (fun _ => rfl) ?_
            refine zr_iald (pc := 249) hV dX12_doStep_249 rfl (by decide) rfl (by omega) ?_
            have t30 := zx_st hσ240 269
            have t31 : σ240 15 269 = σ227 15 269 := by rw [eσ240]; exact zq_up_ne (by omega)
            have t32 : σ227 15 269 = σ192 15 269 := by rw [eσ227]; exact zq_up_ne (by omega)
            have t33 : σ192 15 269 = σ180 15 269 := by rw [eσ192]; exact zq_up_ne (by omega)
            have t34 : σ180 15 269 = σ132 15 269 := by rw [eσ180]; exact zq_up_ne (by omega)
            refine zr_iload (pc := 250) hV dX12_doStep_250 rfl ?_
            refine zr_if_eq (pc := 252) hV 259 dX12_doStep_252 (by decide) (by omega) (fun c35 => ?_) (fun c35 => ?_)
            · show V 259 [some (ZR 0), none, none, none, none, some (ZI v0_80), some (ZI v0_161)] [ZI (σ240 15 269), ZI 269, ZR 15] 41 σ240
              refine zr_iconst (pc := 259) hV 0 dX12_doStep_259 rfl ?_
              show V 260 [some (ZR 0), none, none, none, none, some (ZI v0_80), some (ZI v0_161)] [ZI 0, ZI (σ240 15 269), ZI 269, ZR 15] 41 σ240
              refine zr_iadd (pc := 260) hV dX12_doStep_260 ?_
              refine zr_iast (pc := 261) hV dX12_doStep_261 rfl (by decide) rfl (by omega) (fun σ261 eσ261 => ?_)
              have hσ261 : zx_T σ261 := zx_ua15 eσ261 hσ240 (by omega)
              have hFσ261 : ∀ a i : Int, (¬ (a = 0 ∧ i = 26) ∧ ¬ (a = 0 ∧ i = 27) ∧ ¬ (a = 0 ∧ i = 30) ∧ a ≠ 15 ∧ a ≠ 16 ∧ a ≠ 18) → σ261 a i = σ a i := fun a i h => by rw [eσ261, zq_up_ne (fun q => h.2.2.2.1 q.1)]; exact hFσ240 a i h
              have Mσ261 : zx_M σ261 := zx_M_fr (fun i => by rw [eσ261]; exact zq_up_ne (by omega)) (by rw [eσ261]; exact zq_up_ne (by omega)) (by rw [eσ261]; exact zq_up_ne (by omega)) (by rw [eσ261]; exact zq_up_ne (by omega)) Mσ240
              have Oσ261 : zx_O σ261 := zx_O_fr (fun i => by rw [eσ261]; exact zq_up_ne (by omega)) (fun i => by rw [eσ261]; exact zq_up_ne (by omega)) (fun i => by rw [eσ261]; exact zq_up_ne (by omega)) (by rw [eσ261]; exact zq_up_ne (by omega)) (by rw [eσ261]; exact zq_up_ne (by omega)) Oσ240
              have Kσ261 : zx_K σ261 := zx_K_fr (fun i => by rw [eσ261]; exact zq_up_ne (by omega)) (by rw [eσ261]; exact zq_up_ne (by omega)) Kσ240
              refine zr_iconst (pc := 262) hV 1 dX12_doStep_262 rfl ?_
              exact zr_zret (pc := 263) hV dX12_doStep_263 rfl rfl (by omega) ⟨_, rfl, ⟨by decide, by decide⟩, hσ261, hFσ261, (by omega), Mσ261, Oσ261, Kσ261⟩
            · show V 255 [some (ZR 0), none, none, none, none, some (ZI v0_80), some (ZI v0_161)] [ZI (σ240 15 269), ZI 269, ZR 15] 41 σ240
              refine zr_iconst (pc := 255) hV 1 dX12_doStep_255 rfl ?_
              refine zr_goto (pc := 256) hV 260 dX12_doStep_256 (by decide) ?_
              show V 260 [some (ZR 0), none, none, none, none, some (ZI v0_80), some (ZI v0_161)] [ZI 1, ZI (σ240 15 269), ZI 269, ZR 15] 41 σ240
              refine zr_iadd (pc := 260) hV dX12_doStep_260 ?_
              refine zr_any (pc := 261) hV (fun y261 hy261 _ => ?_)
              refine zr_iast (pc := 261) hV dX12_doStep_261 rfl (by decide) rfl (by omega) (fun σ261 eσ261 => ?_)
              have hσ261 : zx_T σ261 := zx_ua15 eσ261 hσ240 (by omega)
              have hFσ261 : ∀ a i : Int, (¬ (a = 0 ∧ i = 26) ∧ ¬ (a = 0 ∧ i = 27) ∧ ¬ (a = 0 ∧ i = 30) ∧ a ≠ 15 ∧ a ≠ 16 ∧ a ≠ 18) → σ261 a i = σ a i := fun a i h => by rw [eσ261, zq_up_ne (fun q => h.2.2.2.1 q.1)]; exact hFσ240 a i h
              have Mσ261 : zx_M σ261 := zx_M_fr (fun i => by rw [eσ261]; exact zq_up_ne (by omega)) (by rw [eσ261]; exact zq_up_ne (by omega)) (by rw [eσ261]; exact zq_up_ne (by omega)) (by rw [eσ261]; exact zq_up_ne (by omega)) Mσ240
              have Oσ261 : zx_O σ261 := zx_O_fr (fun i => by rw [eσ261]; exact zq_up_ne (by omega)) (fun i => by rw [eσ261]; exact zq_up_ne (by omega)) (fun i => by rw [eσ261]; exact zq_up_ne (by omega)) (by rw [eσ261]; exact zq_up_ne (by omega)) (by rw [eσ261]; exact zq_up_ne (by omega)) Oσ240
              have Kσ261 : zx_K σ261 := zx_K_fr (fun i => by rw [eσ261]; exact zq_up_ne (by omega)) (by rw [eσ261]; exact zq_up_ne (by omega)) Kσ240
              refine zr_iconst (pc := 262) hV 1 dX12_doStep_262 rfl ?_
              exact zr_zret (pc := 263) hV dX12_doStep_263 rfl rfl (by omega) ⟨_, rfl, ⟨by decide, by decide⟩, hσ261, hFσ261, (by omega), Mσ261, Oσ261, Kσ261⟩
          refine zr_if_eq (pc := 214) hV 224 dX12_doStep_214 (by decide) (by omega) (fun c36 => ?_) (fun c36 => ?_)
          · show V 224 [some (ZR 0), none, some (ZI (σ 15 265)), none, some (ZI r18), some (ZI v0_80), some (ZI v0_161)] [ZI y212, ZI (σ192 15 267), ZI 267, ZR 15] 41 σ192
            refine zr_iconst (pc := 224) hV 0 dX12_doStep_224 rfl ?_
            refine zr_sub (pc := 225) hV [some (ZR 0), none, none, none, none, some (ZI v0_80), some (ZI v0_161)] (⟨rfl, rfl, rfl, trivial⟩) ?_
            exact J225 0 (by omega)
          · show V 217 [some (ZR 0), none, some (ZI (σ 15 265)), none, some (ZI r18), some (ZI v0_80), some (ZI v0_161)] [ZI y212, ZI (σ192 15 267), ZI 267, ZR 15] 41 σ192
            refine zr_aload_n (pc := 217) hV dX12_doStep_217 rfl rfl ?_
            refine zr_getI (pc := 218) hV 29 dX12_doStep_218 fX12_72 rfl rfl rfl (by decide) ?_
            have t37 := zx_g29 hσ192
            have t38 : σ192 0 29 = σ180 0 29 := by rw [eσ192]; exact zq_up_ne (by omega)
            have t39 : σ180 0 29 = σ132 0 29 := by rw [eσ180]; exact zq_up_ne (by omega)
            have t40 : σ132 0 29 = σ127 0 29 := hfσ132 _ _ (by omega)
            have t41 : σ127 0 29 = σ113 0 29 := by rw [eσ127]; exact zq_up_ne (by omega)
            have t42 : σ113 0 29 = σ98 0 29 := by rw [eσ113]; exact zq_up_ne (by omega)
            have t43 : σ98 0 29 = σ_38 0 29 := by rw [eσ98]; exact zq_up_ne (by omega)
            have t44 : σ_38 0 29 = σ 0 29 := hFσ_38 _ _ (by omega)
            refine zr_goto (pc := 221) hV 225 dX12_doStep_221 (by decide) ?_
            refine zr_sub (pc := 225) hV [some (ZR 0), none, none, none, none, some (ZI v0_80), some (ZI v0_161)] (⟨rfl, rfl, rfl, trivial⟩) ?_
            exact J225 (σ192 0 29) (by omega)
        refine zr_icmp_eq (pc := 153) hV 160 dX12_doStep_153 (by decide) (by omega) (by omega) (fun c45 => ?_) (fun c45 => ?_)
        · show V 160 [some (ZR 0), none, some (ZI (σ 15 265)), some (ZI (σ 14 (σ 15 265))), some (ZI r18), some (ZI v0_80), none] [] 41 σ132
          refine zr_iconst (pc := 160) hV 0 dX12_doStep_160 rfl ?_
          refine zr_sub (pc := 161) hV [some (ZR 0), none, some (ZI (σ 15 265)), none, some (ZI r18), some (ZI v0_80), none] (⟨rfl, rfl, rfl, rfl, trivial⟩) ?_
          exact J161 0 (by omega)
        · show V 156 [some (ZR 0), none, some (ZI (σ 15 265)), some (ZI (σ 14 (σ 15 265))), some (ZI r18), some (ZI v0_80), none] [] 41 σ132
          refine zr_iconst (pc := 156) hV 1 dX12_doStep_156 rfl ?_
          refine zr_goto (pc := 157) hV 161 dX12_doStep_157 (by decide) ?_
          refine zr_sub (pc := 161) hV [some (ZR 0), none, some (ZI (σ 15 265)), none, some (ZI r18), some (ZI v0_80), none] (⟨rfl, rfl, rfl, rfl, trivial⟩) ?_
          exact J161 1 (by omega)
      have J79 : V 79 [some (ZR 0), none, some (ZI (σ 15 265)), some (ZI (σ 14 (σ 15 265))), some (ZI r18), none, none] [] 41 σ_38 := by
        show V 79 [some (ZR 0), none, some (ZI (σ 15 265)), some (ZI (σ 14 (σ 15 265))), some (ZI r18), none, none] [] 41 σ_38
        refine zr_iconst (pc := 79) hV 0 dX12_doStep_79 rfl ?_
        exact J80 0 (by omega)
      refine zr_if_le (pc := 46) hV 79 dX12_doStep_46 (by decide) (by omega) (fun c46 => ?_) (fun c46 => ?_)
      · exact J79
      · show V 49 [some (ZR 0), none, some (ZI (σ 15 265)), some (ZI (σ 14 (σ 15 265))), some (ZI r18), none, none] [] 41 σ_38
        refine zr_aload_n (pc := 49) hV dX12_doStep_49 rfl rfl ?_
        refine zr_getR (pc := 50) hV 24 15 dX12_doStep_50 fX12_62 rfl rfl rfl (by decide) (zx_g24 hσ_38) (by omega) ?_
        refine zr_sipush (pc := 53) hV 271 dX12_doStep_53 (by decide) ?_
        refine zr_iald (pc := 56) hV dX12_doStep_56 rfl (by decide) rfl (by omega) ?_
        have t47 := zx_st hσ_38 271
        refine zr_aload_n (pc := 57) hV dX12_doStep_57 rfl rfl ?_
        refine zr_iload (pc := 58) hV dX12_doStep_58 rfl ?_
        refine zr_iload_n (pc := 60) hV dX12_doStep_60 rfl rfl ?_
        refine zr_callVp (pc := 61) hV [ZI r18, ZI (σ 14 (σ 15 265))] (st := [ZI (σ_38 15 271)]) (c_X12_usesOf (σ := σ_38) hσ_38 r18 (σ 14 (σ 15 265)) (by omega) (by omega) (zx_A_fr (fun i => hFσ_38 5 i (by omega)) (fun i => hFσ_38 6 i (by omega)) (Oσ r18 (by omega) (by omega)).1) (zx_B_fr (fun i => hFσ_38 2 i (by omega)) (hFσ_38 0 2 (by omega)) (Oσ r18 (by omega) (by omega)).2)) dX12_doStep_61 mX12_371 rfl (by decide) (by decide) (Nat.le_of_ble_eq_true rfl) (Nat.le_refl _) (fun r61 hr61 pr61 => ?_)
        refine zr_iand (pc := 64) hV dX12_doStep_64 ?_
        have t48 := zq_and_in (σ_38 15 271) r61
        refine zr_if_eq (pc := 65) hV 79 dX12_doStep_65 (by decide) (by omega) (fun c49 => ?_) (fun c49 => ?_)
        · exact J79
        · show V 68 [some (ZR 0), none, some (ZI (σ 15 265)), some (ZI (σ 14 (σ 15 265))), some (ZI r18), none, none] [] 41 σ_38
          refine zr_aload_n (pc := 68) hV dX12_doStep_68 rfl rfl ?_
          refine zr_getR (pc := 69) hV 24 15 dX12_doStep_69 fX12_62 rfl rfl rfl (by decide) (zx_g24 hσ_38) (by omega) ?_
          refine zr_sipush (pc := 72) hV 270 dX12_doStep_72 (by decide) ?_
          refine zr_iald (pc := 75) hV dX12_doStep_75 rfl (by decide) rfl (by omega) ?_
          have t50 := zx_st hσ_38 270
          refine zr_goto (pc := 76) hV 80 dX12_doStep_76 (by decide) ?_
          exact J80 (σ_38 15 270) (by omega)
    refine zr_if_eq (pc := 31) hV 38 dX12_doStep_31 (by decide) (by omega) (fun c51 => ?_) (fun c51 => ?_)
    · refine zr_sub (pc := 38) hV [some (ZR 0), none, some (ZI (σ 15 265)), some (ZI (σ 14 (σ 15 265))), some (ZI r18), none, none] (⟨rfl, rfl, rfl, rfl, trivial⟩) ?_
      exact J38 σ18 hσ18 hFσ18 Mσ18 Oσ18 Kσ18
    · show V 34 [some (ZR 0), some (ZI keeps), some (ZI (σ 15 265)), some (ZI (σ 14 (σ 15 265))), some (ZI r18), none, none] [] 41 σ18
      refine zr_aload_n (pc := 34) hV dX12_doStep_34 rfl rfl ?_
      refine zr_callVv (pc := 35) hV [] (st := []) (c_X12_keepPast (σ := σ18) hσ18 ) dX12_doStep_35 mX12_368 rfl (by decide) (by decide) (Nat.le_of_ble_eq_true rfl) (Nat.le_refl _) (fun σ35 pσ35 => ?_)
      obtain ⟨hσ35, hfσ35, pσ35⟩ := pσ35
      have Mσ35 : zx_M σ35 := zx_M_fr (fun i => hfσ35 18 i (by omega)) (hfσ35 0 30 (by omega)) (hfσ35 0 2 (by omega)) (hfσ35 0 3 (by omega)) Mσ18
      have Oσ35 : zx_O σ35 := zx_O_fr (fun i => hfσ35 2 i (by omega)) (fun i => hfσ35 5 i (by omega)) (fun i => hfσ35 6 i (by omega)) (hfσ35 0 2 (by omega)) (hfσ35 0 3 (by omega)) Oσ18
      have Kσ35 : zx_K σ35 := zx_K_fr (fun i => hfσ35 14 i (by omega)) (hfσ35 0 2 (by omega)) Kσ18
      have hFσ35 : ∀ a i : Int, (¬ (a = 0 ∧ i = 26) ∧ ¬ (a = 0 ∧ i = 27) ∧ ¬ (a = 0 ∧ i = 30) ∧ a ≠ 15 ∧ a ≠ 16 ∧ a ≠ 18) → σ35 a i = σ a i := fun a i h => (hfσ35 a i ⟨h.1, h.2.1, h.2.2.2.2.1⟩).trans (hFσ18 a i h)
      refine zr_sub (pc := 38) hV [some (ZR 0), none, some (ZI (σ 15 265)), some (ZI (σ 14 (σ 15 265))), some (ZI r18), none, none] (⟨rfl, rfl, rfl, rfl, trivial⟩) ?_
      exact J38 σ35 hσ35 hFσ35 Mσ35 Oσ35 Kσ35
  · show V 28 [some (ZR 0), some (ZI keeps), some (ZI (σ 15 265)), some (ZI (σ 14 (σ 15 265))), some (ZI r18), none, none] [] 41 σ18
    refine zr_iconst (pc := 28) hV 0 dX12_doStep_28 rfl ?_
    exact zr_zret (pc := 29) hV dX12_doStep_29 rfl rfl (by omega) ⟨_, rfl, ⟨by decide, by decide⟩, hσ18, hFσ18, (by omega), Mσ18, Oσ18, Kσ18⟩
set_option maxHeartbeats 800000 in
theorem c_X12_run {σ : zq_S} (hσ : zx_T σ) (n : Int) (q0 : zq_in n) (Mσ : zx_M σ) (Oσ : zx_O σ) (Kσ : zx_K σ) : zq_C zx_w yX12_run cX12_run 3 (some .int) 5 127 41 41 [ZR 0, ZI n] σ (zq_pi (fun r τ => zx_T τ ∧ (∀ a i : Int, (¬ (a = 0 ∧ i = 26) ∧ ¬ (a = 0 ∧ i = 27) ∧ ¬ (a = 0 ∧ i = 30) ∧ a ≠ 15 ∧ a ≠ 16 ∧ a ≠ 18) → τ a i = σ a i) ∧ (True) ∧ zx_M τ ∧ zx_O τ ∧ zx_K τ)) := by
  refine zq_C_of (by decide) (Nat.le_refl _) (Nat.le_of_ble_eq_true rfl) [some (ZR 0), some (ZI n), none] rfl (fun V hV => ?_)
  show V 0 [some (ZR 0), some (ZI n), none] [] 41 σ
  refine zr_iload_n (pc := 0) hV dX12_run_0 rfl rfl ?_
  refine zr_i2l (pc := 1) hV dX12_run_1 (by omega) ?_
  refine zr_lconst (pc := 2) hV 1 dX12_run_2 (by decide) ?_
  refine zr_ldc2 (pc := 3) (v := 2000) hV 2000 dX12_run_3 kX12_380 (by decide) ?_
  refine zr_callSp (pc := 6) hV [ZL n, ZL 1, ZL 2000] (st := []) (c_X12_in (σ := σ) n 1 2000 (by omega) (by omega) (by omega)) dX12_run_6 mX12_170 (by decide) (Nat.le_of_ble_eq_true rfl) (Nat.le_refl _) (fun r6 hr6 pr6 => ?_)
  refine zr_if_ne (pc := 9) hV 14 dX12_run_9 (by decide) (by omega) (fun c1 => ?_) (fun c1 => ?_)
  · show V 14 [some (ZR 0), some (ZI n), none] [] 41 σ
    refine zr_iconst (pc := 14) hV 0 dX12_run_14 rfl ?_
    refine zr_istore_n (pc := 15) hV [some (ZR 0), some (ZI n), some (ZI 0)] dX12_run_15 rfl (by decide) rfl rfl ?_
    have L16 : ∀ (fuel : Nat) (x2_16 : Int) (σ_16 : zq_S), (0 ≤ x2_16 ∧ x2_16 ≤ 2000) → (zx_T σ_16) → (∀ a i : Int, (¬ (a = 0 ∧ i = 26) ∧ ¬ (a = 0 ∧ i = 27) ∧ ¬ (a = 0 ∧ i = 30) ∧ a ≠ 15 ∧ a ≠ 16 ∧ a ≠ 18) → σ_16 a i = σ a i) → (zx_M σ_16) → (zx_O σ_16) → (zx_K σ_16) → 2000 - x2_16 < (fuel : Int) → V 16 [some (ZR 0), some (ZI n), some (ZI x2_16)] [] 41 σ_16 := by
      intro fuel
      induction fuel with
      | zero =>
        intro x2_16 σ_16 hx2_16 hσ_16 hFσ_16 Mσ_16 Oσ_16 Kσ_16 hm16
        exfalso; omega
      | succ fuel ih =>
        intro x2_16 σ_16 hx2_16 hσ_16 hFσ_16 Mσ_16 Oσ_16 Kσ_16 hm16
        have ih16 := ih
        show V 16 [some (ZR 0), some (ZI n), some (ZI x2_16)] [] 41 σ_16
        refine zr_iload_n (pc := 16) hV dX12_run_16 rfl rfl ?_
        refine zr_iload_n (pc := 17) hV dX12_run_17 rfl rfl ?_
        refine zr_icmp_ge (pc := 18) hV 35 dX12_run_18 (by decide) (by omega) (by omega) (fun c2 => ?_) (fun c2 => ?_)
        · show V 35 [some (ZR 0), some (ZI n), some (ZI x2_16)] [] 41 σ_16
          refine zr_iload_n (pc := 35) hV dX12_run_35 rfl rfl ?_
          refine zr_if_ne (pc := 36) hV 44 dX12_run_36 (by decide) (by omega) (fun c3 => ?_) (fun c3 => ?_)
          · show V 44 [some (ZR 0), some (ZI n), some (ZI x2_16)] [] 41 σ_16
            refine zr_iload_n (pc := 44) hV dX12_run_44 rfl rfl ?_
            show V 45 [some (ZR 0), some (ZI n), some (ZI x2_16)] [ZI x2_16] 41 σ_16
            exact zr_iret (pc := 45) hV dX12_run_45 rfl rfl ⟨_, rfl, (by omega), hσ_16, hFσ_16, trivial, Mσ_16, Oσ_16, Kσ_16⟩
          · exfalso; omega
        · show V 21 [some (ZR 0), some (ZI n), some (ZI x2_16)] [] 41 σ_16
          refine zr_aload_n (pc := 21) hV dX12_run_21 rfl rfl ?_
          refine zr_iconst (pc := 22) hV 1 dX12_run_22 rfl ?_
          refine zr_callVi (pc := 23) hV [ZI 1] (st := []) (c_X12_doStep (σ := σ_16) hσ_16 1 (by omega) Mσ_16 Oσ_16 Kσ_16) dX12_run_23 mX12_382 rfl (by decide) (by decide) (Nat.le_of_ble_eq_true rfl) (Nat.le_refl _) (fun r23 σ23 hr23 pσ23 => ?_)
          obtain ⟨hσ23, hfσ23, pσ23, Mσ23, Oσ23, Kσ23⟩ := pσ23
          have hFσ23 : ∀ a i : Int, (¬ (a = 0 ∧ i = 26) ∧ ¬ (a = 0 ∧ i = 27) ∧ ¬ (a = 0 ∧ i = 30) ∧ a ≠ 15 ∧ a ≠ 16 ∧ a ≠ 18) → σ23 a i = σ a i := fun a i h => (hfσ23 a i ⟨h.1, h.2.1, h.2.2.1, h.2.2.2.1, h.2.2.2.2.1, h.2.2.2.2.2⟩).trans (hFσ_16 a i h)
          refine zr_if_eq (pc := 26) hV 35 dX12_run_26 (by decide) (by omega) (fun c4 => ?_) (fun c4 => ?_)
          · show V 35 [some (ZR 0), some (ZI n), some (ZI x2_16)] [] 41 σ23
            refine zr_iload_n (pc := 35) hV dX12_run_35 rfl rfl ?_
            refine zr_if_ne (pc := 36) hV 44 dX12_run_36 (by decide) (by omega) (fun c5 => ?_) (fun c5 => ?_)
            · show V 44 [some (ZR 0), some (ZI n), some (ZI x2_16)] [] 41 σ23
              refine zr_iload_n (pc := 44) hV dX12_run_44 rfl rfl ?_
              show V 45 [some (ZR 0), some (ZI n), some (ZI x2_16)] [ZI x2_16] 41 σ23
              exact zr_iret (pc := 45) hV dX12_run_45 rfl rfl ⟨_, rfl, (by omega), hσ23, hFσ23, trivial, Mσ23, Oσ23, Kσ23⟩
            · show V 39 [some (ZR 0), some (ZI n), some (ZI x2_16)] [] 41 σ23
              refine zr_bipush (pc := 39) hV (-5) dX12_run_39 (by decide) ?_
              refine zr_goto (pc := 41) hV 45 dX12_run_41 (by decide) ?_
              show V 45 [some (ZR 0), some (ZI n), some (ZI x2_16)] [ZI (-5)] 41 σ23
              exact zr_iret (pc := 45) hV dX12_run_45 rfl rfl ⟨_, rfl, ⟨by decide, by decide⟩, hσ23, hFσ23, trivial, Mσ23, Oσ23, Kσ23⟩
          · show V 29 [some (ZR 0), some (ZI n), some (ZI x2_16)] [] 41 σ23
            refine zr_iinc (pc := 29) hV [some (ZR 0), some (ZI n), some (ZI (x2_16 + 1))] (x2_16 + 1) dX12_run_29 rfl rfl (by decide) rfl rfl ?_
            refine zr_goto (pc := 32) hV 16 dX12_run_32 (by decide) ?_
            exact ih16 (x2_16 + 1) σ23 (by omega) hσ23 hFσ23 Mσ23 Oσ23 Kσ23 (by omega)
    exact L16 (2000 - (0 : Int) + 1 : Int).toNat 0 σ (by omega) hσ (fun a i _ => rfl) Mσ Oσ Kσ (by omega)
  · show V 12 [some (ZR 0), some (ZI n), none] [] 41 σ
    refine zr_iconst (pc := 12) hV (-1) dX12_run_12 rfl ?_
    exact zr_iret (pc := 13) hV dX12_run_13 rfl rfl ⟨_, rfl, ⟨by decide, by decide⟩, hσ, (fun a i _ => rfl), trivial, Mσ, Oσ, Kσ⟩
