set_option maxHeartbeats 800000 in
theorem c_X12_reckon2 {σ : zq_S} (sign x y : Int) (q0 : zq_in sign) (q1 : 0 ≤ x ∧ x ≤ 255) (q2 : 0 ≤ y ∧ y ≤ 255) : zq_C zx_w yX12_reckon cX12_reckon 3 (some .int) 0 0 41 41 [ZI sign, ZI x, ZI y] σ (zq_pp σ (fun r => r = zw_rk sign x y)) := by
  refine zq_C_of (by decide) (Nat.le_refl _) (Nat.le_of_ble_eq_true rfl) [some (ZI sign), some (ZI x), some (ZI y)] rfl (fun V hV => ?_)
  show V 0 [some (ZI sign), some (ZI x), some (ZI y)] [] 41 σ
  refine zr_iload_n (pc := 0) hV dX12_reckon_0 rfl rfl ?_
  by_cases c1 : sign = 1
  · refine zr_eqI (V := V) 1 c1 ?_
    refine zr_tableIn (pc := 1) hV 40 dX12_reckon_1 ⟨by decide, by decide⟩ (by decide) (by decide) rfl (by decide) ?_
    show V 40 [some (ZI sign), some (ZI x), some (ZI y)] [] 41 σ
    refine zr_iload_n (pc := 40) hV dX12_reckon_40 rfl rfl ?_
    refine zr_iload_n (pc := 41) hV dX12_reckon_41 rfl rfl ?_
    refine zr_iadd (pc := 42) hV dX12_reckon_42 ?_
    exact zr_iret (pc := 43) hV dX12_reckon_43 rfl rfl ⟨rfl, _, rfl, (by omega), (by unfold zw_rk; repeat' split; all_goals omega)⟩
  by_cases c2 : sign = 2
  · refine zr_eqI (V := V) 2 c2 ?_
    refine zr_tableIn (pc := 1) hV 44 dX12_reckon_1 ⟨by decide, by decide⟩ (by decide) (by decide) rfl (by decide) ?_
    show V 44 [some (ZI sign), some (ZI x), some (ZI y)] [] 41 σ
    refine zr_iload_n (pc := 44) hV dX12_reckon_44 rfl rfl ?_
    refine zr_iload_n (pc := 45) hV dX12_reckon_45 rfl rfl ?_
    refine zr_isub (pc := 46) hV dX12_reckon_46 ?_
    exact zr_iret (pc := 47) hV dX12_reckon_47 rfl rfl ⟨rfl, _, rfl, (by omega), (by unfold zw_rk; repeat' split; all_goals omega)⟩
  by_cases c3 : sign = 3
  · refine zr_eqI (V := V) 3 c3 ?_
    refine zr_tableIn (pc := 1) hV 48 dX12_reckon_1 ⟨by decide, by decide⟩ (by decide) (by decide) rfl (by decide) ?_
    show V 48 [some (ZI sign), some (ZI x), some (ZI y)] [] 41 σ
    refine zr_iload_n (pc := 48) hV dX12_reckon_48 rfl rfl ?_
    refine zr_iload_n (pc := 49) hV dX12_reckon_49 rfl rfl ?_
    refine zr_iand (pc := 50) hV dX12_reckon_50 ?_
    have t4 := zq_and_nnR (x := x) (y := y) (by omega)
    exact zr_iret (pc := 51) hV dX12_reckon_51 rfl rfl ⟨rfl, _, rfl, (by omega), (by unfold zw_rk; repeat' split; all_goals omega)⟩
  by_cases c5 : sign = 4
  · refine zr_eqI (V := V) 4 c5 ?_
    refine zr_tableIn (pc := 1) hV 52 dX12_reckon_1 ⟨by decide, by decide⟩ (by decide) (by decide) rfl (by decide) ?_
    show V 52 [some (ZI sign), some (ZI x), some (ZI y)] [] 41 σ
    refine zr_iload_n (pc := 52) hV dX12_reckon_52 rfl rfl ?_
    refine zr_iload_n (pc := 53) hV dX12_reckon_53 rfl rfl ?_
    refine zr_ior (pc := 54) hV dX12_reckon_54 ?_
    have t6 := zq_or_b (x := x) (y := y) 8 256 (by decide) (by decide) (by omega) (by omega)
    exact zr_iret (pc := 55) hV dX12_reckon_55 rfl rfl ⟨rfl, _, rfl, (by omega), (by unfold zw_rk; repeat' split; all_goals omega)⟩
  by_cases c7 : sign = 5
  · refine zr_eqI (V := V) 5 c7 ?_
    refine zr_tableIn (pc := 1) hV 56 dX12_reckon_1 ⟨by decide, by decide⟩ (by decide) (by decide) rfl (by decide) ?_
    show V 56 [some (ZI sign), some (ZI x), some (ZI y)] [] 41 σ
    refine zr_iload_n (pc := 56) hV dX12_reckon_56 rfl rfl ?_
    refine zr_iload_n (pc := 57) hV dX12_reckon_57 rfl rfl ?_
    refine zr_ixor (pc := 58) hV dX12_reckon_58 ?_
    have t8 := zq_xor_b (x := x) (y := y) 8 256 (by decide) (by decide) (by omega) (by omega)
    exact zr_iret (pc := 59) hV dX12_reckon_59 rfl rfl ⟨rfl, _, rfl, (by omega), (by unfold zw_rk; repeat' split; all_goals omega)⟩
  by_cases c9 : sign = 6
  · refine zr_eqI (V := V) 6 c9 ?_
    refine zr_tableIn (pc := 1) hV 60 dX12_reckon_1 ⟨by decide, by decide⟩ (by decide) (by decide) rfl (by decide) ?_
    show V 60 [some (ZI sign), some (ZI x), some (ZI y)] [] 41 σ
    refine zr_iload_n (pc := 60) hV dX12_reckon_60 rfl rfl ?_
    refine zr_iload_n (pc := 61) hV dX12_reckon_61 rfl rfl ?_
    refine zr_icmp_ge (pc := 62) hV 69 dX12_reckon_62 (by decide) (by omega) (by omega) (fun c10 => ?_) (fun c10 => ?_)
    · show V 69 [some (ZI sign), some (ZI x), some (ZI y)] [] 41 σ
      refine zr_iconst (pc := 69) hV 0 dX12_reckon_69 rfl ?_
      show V 70 [some (ZI sign), some (ZI x), some (ZI y)] [ZI 0] 41 σ
      exact zr_iret (pc := 70) hV dX12_reckon_70 rfl rfl ⟨rfl, _, rfl, ⟨by decide, by decide⟩, (by unfold zw_rk; repeat' split; all_goals omega)⟩
    · show V 65 [some (ZI sign), some (ZI x), some (ZI y)] [] 41 σ
      refine zr_iconst (pc := 65) hV 1 dX12_reckon_65 rfl ?_
      refine zr_goto (pc := 66) hV 70 dX12_reckon_66 (by decide) ?_
      show V 70 [some (ZI sign), some (ZI x), some (ZI y)] [ZI 1] 41 σ
      exact zr_iret (pc := 70) hV dX12_reckon_70 rfl rfl ⟨rfl, _, rfl, ⟨by decide, by decide⟩, (by unfold zw_rk; repeat' split; all_goals omega)⟩
  refine zr_tableOut (pc := 1) hV 71 dX12_reckon_1 (by omega) (by omega) (by decide) ?_
  show V 71 [some (ZI sign), some (ZI x), some (ZI y)] [] 41 σ
  refine zr_iload_n (pc := 71) hV dX12_reckon_71 rfl rfl ?_
  exact zr_iret (pc := 72) hV dX12_reckon_72 rfl rfl ⟨rfl, _, rfl, (by omega), (by unfold zw_rk; repeat' split; all_goals omega)⟩
set_option maxHeartbeats 800000 in
theorem c_X12_addressOf2 {σ : zq_S} (hσ : zx_T σ) (o bits what : Int) (q0 : 0 ≤ o ∧ o ≤ 20) (q1 : zq_in bits) (q2 : 6 ≤ what ∧ what ≤ 9) (q3 : zx_B σ o) : zq_C zx_w yX12_addressOf cX12_addressOf 5 (some .int) 1 25 41 41 [ZR 0, ZI o, ZI bits, ZI what] σ (zq_pp σ (fun r => 0 ≤ r ∧ r ≤ 255 ∧ r = zw_ad (zu_rf σ o bits) (σ 15) what)) := by
  refine zq_C_of (by decide) (Nat.le_refl _) (Nat.le_of_ble_eq_true rfl) [some (ZR 0), some (ZI o), some (ZI bits), some (ZI what), none] rfl (fun V hV => ?_)
  show V 0 [some (ZR 0), some (ZI o), some (ZI bits), some (ZI what), none] [] 41 σ
  refine zr_aload_n (pc := 0) hV dX12_addressOf_0 rfl rfl ?_
  refine zr_iload_n (pc := 1) hV dX12_addressOf_1 rfl rfl ?_
  refine zr_iload_n (pc := 2) hV dX12_addressOf_2 rfl rfl ?_
  refine zr_iload_n (pc := 3) hV dX12_addressOf_3 rfl rfl ?_
  refine zr_bipush (pc := 4) hV 6 dX12_addressOf_4 (by decide) ?_
  refine zr_isub (pc := 6) hV dX12_addressOf_6 ?_
  refine zr_callVp (pc := 7) hV [ZI o, ZI bits, ZI (what - 6)] (st := []) (c_X12_fieldOf2 (σ := σ) hσ o bits (what - 6) (by omega) (by omega) (by omega) q3) dX12_addressOf_7 mX12_289 rfl (by decide) (by decide) (Nat.le_of_ble_eq_true rfl) (Nat.le_refl _) (fun r7 hr7 pr7 => ?_)
  refine zr_istore (pc := 10) hV [some (ZR 0), some (ZI o), some (ZI bits), some (ZI what), some (ZI r7)] dX12_addressOf_10 (by decide) rfl rfl ?_
  refine zr_iload_n (pc := 12) hV dX12_addressOf_12 rfl rfl ?_
  refine zr_bipush (pc := 13) hV 9 dX12_addressOf_13 (by decide) ?_
  refine zr_icmp_ne (pc := 15) hV 23 dX12_addressOf_15 (by decide) (by omega) ⟨by decide, by decide⟩ (fun c1 => ?_) (fun c1 => ?_)
  · show V 23 [some (ZR 0), some (ZI o), some (ZI bits), some (ZI what), some (ZI r7)] [] 41 σ
    refine zr_aload_n (pc := 23) hV dX12_addressOf_23 rfl rfl ?_
    refine zr_getR (pc := 24) hV 24 15 dX12_addressOf_24 fX12_62 rfl rfl rfl (by decide) (zx_g24 hσ) (by omega) ?_
    refine zr_iload (pc := 27) hV dX12_addressOf_27 rfl ?_
    refine zr_iald (pc := 29) hV dX12_addressOf_29 rfl (by decide) rfl (by omega) ?_
    have t2 := zx_stW hσ r7 (by omega)
    show V 30 [some (ZR 0), some (ZI o), some (ZI bits), some (ZI what), some (ZI r7)] [ZI (σ 15 r7)] 41 σ
    exact zr_iret (pc := 30) hV dX12_addressOf_30 rfl rfl ⟨rfl, _, rfl, (by omega), ⟨by omega, by omega, by unfold zw_ad; rw [if_neg (by omega), ← pr7.2.2.2]⟩⟩
  · show V 18 [some (ZR 0), some (ZI o), some (ZI bits), some (ZI what), some (ZI r7)] [] 41 σ
    refine zr_iload (pc := 18) hV dX12_addressOf_18 rfl ?_
    refine zr_goto (pc := 20) hV 30 dX12_addressOf_20 (by decide) ?_
    show V 30 [some (ZR 0), some (ZI o), some (ZI bits), some (ZI what), some (ZI r7)] [ZI r7] 41 σ
    exact zr_iret (pc := 30) hV dX12_addressOf_30 rfl rfl ⟨rfl, _, rfl, (by omega), ⟨by omega, by omega, by unfold zw_ad; rw [if_pos (by omega)]; have z := pr7.2.2.2; rw [show what - 6 = 3 by omega] at z; exact z⟩⟩
set_option maxHeartbeats 800000 in
theorem c_X12_valueOf2 {σ : zq_S} (hσ : zx_T σ) (o bits what number : Int) (q0 : 0 ≤ o ∧ o ≤ 20) (q1 : zq_in bits) (q2 : 0 ≤ what ∧ what ≤ 10) (q3 : zq_in number) (q4 : zx_B σ o) : zq_C zx_w yX12_valueOf cX12_valueOf 5 (some .int) 2 49 41 41 [ZR 0, ZI o, ZI bits, ZI what, ZI number] σ (zq_pp σ (fun r => 0 ≤ r ∧ r ≤ 255 ∧ r = zw_va (zu_rf σ o bits) (σ 15) (zx_p2 (σ 0 0) - 1) what number)) := by
  refine zq_C_of (by decide) (Nat.le_refl _) (Nat.le_of_ble_eq_true rfl) [some (ZR 0), some (ZI o), some (ZI bits), some (ZI what), some (ZI number)] rfl (fun V hV => ?_)
  show V 0 [some (ZR 0), some (ZI o), some (ZI bits), some (ZI what), some (ZI number)] [] 41 σ
  refine zr_iload_n (pc := 0) hV dX12_valueOf_0 rfl rfl ?_
  refine zr_iconst (pc := 1) hV 3 dX12_valueOf_1 rfl ?_
  refine zr_icmp_ge (pc := 2) hV 18 dX12_valueOf_2 (by decide) (by omega) ⟨by decide, by decide⟩ (fun c1 => ?_) (fun c1 => ?_)
  · show V 18 [some (ZR 0), some (ZI o), some (ZI bits), some (ZI what), some (ZI number)] [] 41 σ
    refine zr_iload_n (pc := 18) hV dX12_valueOf_18 rfl rfl ?_
    refine zr_iconst (pc := 19) hV 3 dX12_valueOf_19 rfl ?_
    refine zr_icmp_ne (pc := 20) hV 31 dX12_valueOf_20 (by decide) (by omega) ⟨by decide, by decide⟩ (fun c2 => ?_) (fun c2 => ?_)
    · show V 31 [some (ZR 0), some (ZI o), some (ZI bits), some (ZI what), some (ZI number)] [] 41 σ
      refine zr_iload_n (pc := 31) hV dX12_valueOf_31 rfl rfl ?_
      refine zr_iconst (pc := 32) hV 4 dX12_valueOf_32 rfl ?_
      refine zr_icmp_ne (pc := 33) hV 45 dX12_valueOf_33 (by decide) (by omega) ⟨by decide, by decide⟩ (fun c3 => ?_) (fun c3 => ?_)
      · show V 45 [some (ZR 0), some (ZI o), some (ZI bits), some (ZI what), some (ZI number)] [] 41 σ
        refine zr_iload_n (pc := 45) hV dX12_valueOf_45 rfl rfl ?_
        refine zr_iconst (pc := 46) hV 5 dX12_valueOf_46 rfl ?_
        refine zr_icmp_ne (pc := 47) hV 64 dX12_valueOf_47 (by decide) (by omega) ⟨by decide, by decide⟩ (fun c4 => ?_) (fun c4 => ?_)
        · show V 64 [some (ZR 0), some (ZI o), some (ZI bits), some (ZI what), some (ZI number)] [] 41 σ
          refine zr_iload_n (pc := 64) hV dX12_valueOf_64 rfl rfl ?_
          refine zr_bipush (pc := 65) hV 10 dX12_valueOf_65 (by decide) ?_
          refine zr_icmp_ne (pc := 67) hV 80 dX12_valueOf_67 (by decide) (by omega) ⟨by decide, by decide⟩ (fun c5 => ?_) (fun c5 => ?_)
          · show V 80 [some (ZR 0), some (ZI o), some (ZI bits), some (ZI what), some (ZI number)] [] 41 σ
            refine zr_aload_n (pc := 80) hV dX12_valueOf_80 rfl rfl ?_
            refine zr_getR (pc := 81) hV 24 15 dX12_valueOf_81 fX12_62 rfl rfl rfl (by decide) (zx_g24 hσ) (by omega) ?_
            refine zr_bipush (pc := 84) hV 8 dX12_valueOf_84 (by decide) ?_
            refine zr_aload_n (pc := 86) hV dX12_valueOf_86 rfl rfl ?_
            refine zr_iload_n (pc := 87) hV dX12_valueOf_87 rfl rfl ?_
            refine zr_iload_n (pc := 88) hV dX12_valueOf_88 rfl rfl ?_
            refine zr_iload_n (pc := 89) hV dX12_valueOf_89 rfl rfl ?_
            refine zr_callVp (pc := 90) hV [ZI o, ZI bits, ZI what] (st := [ZI 8, ZR 15]) (c_X12_addressOf2 (σ := σ) hσ o bits what (by omega) (by omega) (by omega) q4) dX12_valueOf_90 mX12_352 rfl (by decide) (by decide) (Nat.le_of_ble_eq_true rfl) (Nat.le_refl _) (fun r90 hr90 pr90 => ?_)
            refine zr_iadd (pc := 93) hV dX12_valueOf_93 ?_
            refine zr_iald (pc := 94) hV dX12_valueOf_94 rfl (by decide) rfl (by omega) ?_
            have t6 := zx_stW hσ (8 + r90) (by omega)
            show V 95 [some (ZR 0), some (ZI o), some (ZI bits), some (ZI what), some (ZI number)] [ZI (σ 15 (8 + r90))] 41 σ
            exact zr_iret (pc := 95) hV dX12_valueOf_95 rfl rfl ⟨rfl, _, rfl, (by omega), ⟨by omega, by omega, by rw [zw_va_m (by omega), ← pr90.2.2]⟩⟩
          · show V 70 [some (ZR 0), some (ZI o), some (ZI bits), some (ZI what), some (ZI number)] [] 41 σ
            refine zr_iload (pc := 70) hV dX12_valueOf_70 rfl ?_
            refine zr_aload_n (pc := 72) hV dX12_valueOf_72 rfl rfl ?_
            refine zr_callVp (pc := 73) hV [] (st := [ZI number]) (c_X12_mask2 (σ := σ) hσ ) dX12_valueOf_73 mX12_346 rfl (by decide) (by decide) (Nat.le_of_ble_eq_true rfl) (Nat.le_refl _) (fun r73 hr73 pr73 => ?_)
            have t7 := zx_g0 hσ
            refine zr_iand (pc := 76) hV dX12_valueOf_76 ?_
            have t8 := zq_and_nnR (x := number) (y := r73) (by omega)
            refine zr_goto (pc := 77) hV 95 dX12_valueOf_77 (by decide) ?_
            show V 95 [some (ZR 0), some (ZI o), some (ZI bits), some (ZI what), some (ZI number)] [ZI (zq_and number r73)] 41 σ
            exact zr_iret (pc := 95) hV dX12_valueOf_95 rfl rfl ⟨rfl, _, rfl, (by omega), ⟨by omega, by omega, by rw [zw_va_10 (by omega), ← pr73.2.2]⟩⟩
        · show V 50 [some (ZR 0), some (ZI o), some (ZI bits), some (ZI what), some (ZI number)] [] 41 σ
          refine zr_aload_n (pc := 50) hV dX12_valueOf_50 rfl rfl ?_
          refine zr_getR (pc := 51) hV 24 15 dX12_valueOf_51 fX12_62 rfl rfl rfl (by decide) (zx_g24 hσ) (by omega) ?_
          refine zr_sipush (pc := 54) hV 265 dX12_valueOf_54 (by decide) ?_
          refine zr_iald (pc := 57) hV dX12_valueOf_57 rfl (by decide) rfl (by omega) ?_
          have t9 := zx_stP hσ
          refine zr_aload_n (pc := 58) hV dX12_valueOf_58 rfl rfl ?_
          refine zr_callVp (pc := 59) hV [] (st := [ZI (σ 15 265)]) (c_X12_mask2 (σ := σ) hσ ) dX12_valueOf_59 mX12_346 rfl (by decide) (by decide) (Nat.le_of_ble_eq_true rfl) (Nat.le_refl _) (fun r59 hr59 pr59 => ?_)
          have t10 := zx_g0 hσ
          refine zr_iand (pc := 62) hV dX12_valueOf_62 ?_
          have t11 := zq_and_nnR (x := σ 15 265) (y := r59) (by omega)
          exact zr_iret (pc := 63) hV dX12_valueOf_63 rfl rfl ⟨rfl, _, rfl, (by omega), ⟨by omega, by omega, by rw [zw_va_5 (by omega), ← pr59.2.2]⟩⟩
      · show V 36 [some (ZR 0), some (ZI o), some (ZI bits), some (ZI what), some (ZI number)] [] 41 σ
        refine zr_aload_n (pc := 36) hV dX12_valueOf_36 rfl rfl ?_
        refine zr_getR (pc := 37) hV 24 15 dX12_valueOf_37 fX12_62 rfl rfl rfl (by decide) (zx_g24 hσ) (by omega) ?_
        refine zr_sipush (pc := 40) hV 264 dX12_valueOf_40 (by decide) ?_
        refine zr_iald (pc := 43) hV dX12_valueOf_43 rfl (by decide) rfl (by omega) ?_
        have t12 := zx_stZ hσ
        exact zr_iret (pc := 44) hV dX12_valueOf_44 rfl rfl ⟨rfl, _, rfl, (by omega), ⟨by omega, by omega, (zw_va_4 (by omega)).symm⟩⟩
    · show V 23 [some (ZR 0), some (ZI o), some (ZI bits), some (ZI what), some (ZI number)] [] 41 σ
      refine zr_aload_n (pc := 23) hV dX12_valueOf_23 rfl rfl ?_
      refine zr_iload_n (pc := 24) hV dX12_valueOf_24 rfl rfl ?_
      refine zr_iload_n (pc := 25) hV dX12_valueOf_25 rfl rfl ?_
      refine zr_iconst (pc := 26) hV 3 dX12_valueOf_26 rfl ?_
      refine zr_callVp (pc := 27) hV [ZI o, ZI bits, ZI 3] (st := []) (c_X12_fieldOf2 (σ := σ) hσ o bits 3 (by omega) (by omega) (by omega) q4) dX12_valueOf_27 mX12_289 rfl (by decide) (by decide) (Nat.le_of_ble_eq_true rfl) (Nat.le_refl _) (fun r27 hr27 pr27 => ?_)
      exact zr_iret (pc := 30) hV dX12_valueOf_30 rfl rfl ⟨rfl, _, rfl, (by omega), ⟨by omega, by omega, by rw [zw_va_3 (by omega), ← pr27.2.2.2]⟩⟩
  · show V 5 [some (ZR 0), some (ZI o), some (ZI bits), some (ZI what), some (ZI number)] [] 41 σ
    refine zr_aload_n (pc := 5) hV dX12_valueOf_5 rfl rfl ?_
    refine zr_getR (pc := 6) hV 24 15 dX12_valueOf_6 fX12_62 rfl rfl rfl (by decide) (zx_g24 hσ) (by omega) ?_
    refine zr_aload_n (pc := 9) hV dX12_valueOf_9 rfl rfl ?_
    refine zr_iload_n (pc := 10) hV dX12_valueOf_10 rfl rfl ?_
    refine zr_iload_n (pc := 11) hV dX12_valueOf_11 rfl rfl ?_
    refine zr_iload_n (pc := 12) hV dX12_valueOf_12 rfl rfl ?_
    refine zr_callVp (pc := 13) hV [ZI o, ZI bits, ZI what] (st := [ZR 15]) (c_X12_fieldOf2 (σ := σ) hσ o bits what (by omega) (by omega) (by omega) q4) dX12_valueOf_13 mX12_289 rfl (by decide) (by decide) (Nat.le_of_ble_eq_true rfl) (Nat.le_refl _) (fun r13 hr13 pr13 => ?_)
    refine zr_iald (pc := 16) hV dX12_valueOf_16 rfl (by decide) rfl (by omega) ?_
    have t13 := zx_stW hσ r13 (by omega)
    exact zr_iret (pc := 17) hV dX12_valueOf_17 rfl rfl ⟨rfl, _, rfl, (by omega), ⟨by omega, by omega, by rw [zw_va_0 (by omega), ← pr13.2.2.2]⟩⟩
set_option maxHeartbeats 800000 in
theorem c_X12_doOrder2 {σ : zq_S} (hσ : zx_T σ) (o bits : Int) (q0 : 0 ≤ o ∧ o ≤ 20) (q1 : zq_in bits) (q2 : zx_A σ o) (q3 : zx_B σ o) : zq_C zx_w yX12_doOrder cX12_doOrder 9 (none) 3 73 41 41 [ZR 0, ZI o, ZI bits] σ (zq_pv (fun τ => zx_T τ ∧ (∀ a i : Int, (a ≠ 15) → τ a i = σ a i) ∧ (True) ∧ zq_hid (∀ i, τ 15 i = zw_do (zu_rf σ o bits) (zx_p2 (σ 0 0) - 1) (σ 6) o (σ 3 o) (σ 4 o) (σ 5 o) (σ 15) i))) := by
  refine zq_C_of (by decide) (Nat.le_refl _) (Nat.le_of_ble_eq_true rfl) [some (ZR 0), some (ZI o), some (ZI bits), none, none, none, none, none, none] rfl (fun V hV => ?_)
  have z5o := zx_ga5 hσ o
  show V 0 [some (ZR 0), some (ZI o), some (ZI bits), none, none, none, none, none, none] [] 41 σ
  refine zr_aload_n (pc := 0) hV dX12_doOrder_0 rfl rfl ?_
  refine zr_getR (pc := 1) hV 6 3 dX12_doOrder_1 fX12_26 rfl rfl rfl (by decide) (zx_g6 hσ) (by omega) ?_
  refine zr_iload_n (pc := 4) hV dX12_doOrder_4 rfl rfl ?_
  refine zr_iald (pc := 5) hV dX12_doOrder_5 rfl (by decide) rfl (by omega) ?_
  have t1 := zx_ga3 hσ o
  have J76 : (zq_hid (zw_gd (zu_rf σ o bits) (σ 15) (σ 3 o) (σ 4 o))) → V 76 [some (ZR 0), some (ZI o), some (ZI bits), none, none, none, none, none, none] [] 41 σ := by
    intro hi76_0
    show V 76 [some (ZR 0), some (ZI o), some (ZI bits), none, none, none, none, none, none] [] 41 σ
    refine zr_iconst (pc := 76) hV 0 dX12_doOrder_76 rfl ?_
    refine zr_istore_n (pc := 77) hV [some (ZR 0), some (ZI o), some (ZI bits), some (ZI 0), none, none, none, none, none] dX12_doOrder_77 rfl (by decide) rfl rfl ?_
    have L78 : ∀ (fuel : Nat) (x3_78 : Int) (σ_78 : zq_S), (0 ≤ x3_78 ∧ x3_78 ≤ 3) → (zx_T σ_78) → (∀ a i : Int, (a ≠ 15) → σ_78 a i = σ a i) → (zq_hid (∀ i, σ_78 15 i = zw_as (zu_rf σ o bits) (zx_p2 (σ 0 0) - 1) (σ 6) (18 * o) x3_78 (σ 15) i)) → (zq_hid (zw_gd (zu_rf σ o bits) (σ 15) (σ 3 o) (σ 4 o))) → (x3_78 ≤ σ 5 o) → 3 - x3_78 < (fuel : Int) → V 78 [some (ZR 0), some (ZI o), some (ZI bits), some (ZI x3_78), none, none, none, none, none] [] 41 σ_78 := by
      intro fuel
      induction fuel with
      | zero =>
        intro x3_78 σ_78 hx3_78 hσ_78 hFσ_78 hi78_0 hi78_1 hi78_2 hm78
        exfalso; omega
      | succ fuel ih =>
        intro x3_78 σ_78 hx3_78 hσ_78 hFσ_78 hi78_0 hi78_1 hi78_2 hm78
        have ih78 := ih
        show V 78 [some (ZR 0), some (ZI o), some (ZI bits), some (ZI x3_78), none, none, none, none, none] [] 41 σ_78
        refine zr_iload_n (pc := 78) hV dX12_doOrder_78 rfl rfl ?_
        refine zr_aload_n (pc := 79) hV dX12_doOrder_79 rfl rfl ?_
        refine zr_getR (pc := 80) hV 8 5 dX12_doOrder_80 fX12_32 rfl rfl rfl (by decide) (zx_g8 hσ_78) (by omega) ?_
        refine zr_iload_n (pc := 83) hV dX12_doOrder_83 rfl rfl ?_
        refine zr_iald (pc := 84) hV dX12_doOrder_84 rfl (by decide) rfl (by omega) ?_
        have t2 := zx_ga5 hσ_78 o
        have t3 : σ_78 5 o = σ 5 o := hFσ_78 _ _ (by omega)
        refine zr_icmp_ge (pc := 85) hV 296 dX12_doOrder_85 (by decide) (by omega) (by omega) (fun c4 => ?_) (fun c4 => ?_)
        · show V 296 [some (ZR 0), some (ZI o), some (ZI bits), some (ZI x3_78), none, none, none, none, none] [] 41 σ_78
          exact zr_vret (pc := 296) hV dX12_doOrder_296 rfl rfl ⟨rfl, hσ_78, hFσ_78, trivial, (show ∀ i, σ_78 15 i = zw_do (zu_rf σ o bits) (zx_p2 (σ 0 0) - 1) (σ 6) o (σ 3 o) (σ 4 o) (σ 5 o) (σ 15) i from (fun i => by rw [zw_do_y hi78_1, show σ 5 o = x3_78 by omega]; exact hi78_0 i))⟩
        · show V 88 [some (ZR 0), some (ZI o), some (ZI bits), some (ZI x3_78), none, none, none, none, none] [] 41 σ_78
          have e15 : σ_78 15 = zw_as (zu_rf σ o bits) (zx_p2 (σ 0 0) - 1) (σ 6) (18 * o) x3_78 (σ 15) := funext (fun i => hi78_0 i)
          have eF : zu_rf σ_78 o bits = zu_rf σ o bits := funext (fun f => zu_rf_fr (fun i => hFσ_78 2 i (by omega)) (hFσ_78 0 2 (by omega)))
          have eM : σ_78 0 0 = σ 0 0 := hFσ_78 0 0 (by omega)
          have ea1 : σ_78 6 ((18 * o + 6 * x3_78) + 1) = σ 6 ((18 * o + 6 * x3_78) + 1) := hFσ_78 6 _ (by omega)
          have ea2 : σ_78 6 ((18 * o + 6 * x3_78) + 2) = σ 6 ((18 * o + 6 * x3_78) + 2) := hFσ_78 6 _ (by omega)
          have ea3 : σ_78 6 ((18 * o + 6 * x3_78) + 3) = σ 6 ((18 * o + 6 * x3_78) + 3) := hFσ_78 6 _ (by omega)
          have ea4 : σ_78 6 ((18 * o + 6 * x3_78) + 4) = σ 6 ((18 * o + 6 * x3_78) + 4) := hFσ_78 6 _ (by omega)
          have ea5 : σ_78 6 ((18 * o + 6 * x3_78) + 5) = σ 6 ((18 * o + 6 * x3_78) + 5) := hFσ_78 6 _ (by omega)
          have ea0 : σ_78 6 (18 * o + 6 * x3_78) = σ 6 (18 * o + 6 * x3_78) := hFσ_78 6 _ (by omega)
          refine zr_bipush (pc := 88) hV 18 dX12_doOrder_88 (by decide) ?_
          refine zr_iload_n (pc := 90) hV dX12_doOrder_90 rfl rfl ?_
          refine zr_imul (pc := 91) hV dX12_doOrder_91 ?_
          refine zr_bipush (pc := 92) hV 6 dX12_doOrder_92 (by decide) ?_
          refine zr_iload_n (pc := 94) hV dX12_doOrder_94 rfl rfl ?_
          refine zr_imul (pc := 95) hV dX12_doOrder_95 ?_
          refine zr_iadd (pc := 96) hV dX12_doOrder_96 ?_
          refine zr_istore (pc := 97) hV [some (ZR 0), some (ZI o), some (ZI bits), some (ZI x3_78), some (ZI ((18 * o) + (6 * x3_78))), none, none, none, none] dX12_doOrder_97 (by decide) rfl rfl ?_
          refine zr_aload_n (pc := 99) hV dX12_doOrder_99 rfl rfl ?_
          refine zr_iload_n (pc := 100) hV dX12_doOrder_100 rfl rfl ?_
          refine zr_iload_n (pc := 101) hV dX12_doOrder_101 rfl rfl ?_
          refine zr_aload_n (pc := 102) hV dX12_doOrder_102 rfl rfl ?_
          refine zr_getR (pc := 103) hV 9 6 dX12_doOrder_103 fX12_35 rfl rfl rfl (by decide) (zx_g9 hσ_78) (by omega) ?_
          refine zr_iload (pc := 106) hV dX12_doOrder_106 rfl ?_
          refine zr_iconst (pc := 108) hV 1 dX12_doOrder_108 rfl ?_
          refine zr_iadd (pc := 109) hV dX12_doOrder_109 ?_
          refine zr_iald (pc := 110) hV dX12_doOrder_110 rfl (by decide) rfl (by omega) ?_
          have t5 := zx_ac1 hσ_78 (((18 * o) + (6 * x3_78)) + 1) (by omega)
          have t6 : σ_78 6 (((18 * o) + (6 * x3_78)) + 1) = σ 6 (((18 * o) + (6 * x3_78)) + 1) := hFσ_78 _ _ (by omega)
          refine zr_aload_n (pc := 111) hV dX12_doOrder_111 rfl rfl ?_
          refine zr_getR (pc := 112) hV 9 6 dX12_doOrder_112 fX12_35 rfl rfl rfl (by decide) (zx_g9 hσ_78) (by omega) ?_
          refine zr_iload (pc := 115) hV dX12_doOrder_115 rfl ?_
          refine zr_iconst (pc := 117) hV 2 dX12_doOrder_117 rfl ?_
          refine zr_iadd (pc := 118) hV dX12_doOrder_118 ?_
          refine zr_iald (pc := 119) hV dX12_doOrder_119 rfl (by decide) rfl (by omega) ?_
          have t7 := zx_ac hσ_78 (((18 * o) + (6 * x3_78)) + 2)
          have t8 : σ_78 6 (((18 * o) + (6 * x3_78)) + 2) = σ 6 (((18 * o) + (6 * x3_78)) + 2) := hFσ_78 _ _ (by omega)
          refine zr_callVp (pc := 120) hV [ZI o, ZI bits, ZI (σ_78 6 (((18 * o) + (6 * x3_78)) + 1)), ZI (σ_78 6 (((18 * o) + (6 * x3_78)) + 2))] (st := []) (c_X12_valueOf2 (σ := σ_78) hσ_78 o bits (σ_78 6 (((18 * o) + (6 * x3_78)) + 1)) (σ_78 6 (((18 * o) + (6 * x3_78)) + 2)) (by omega) (by omega) (by omega) (by omega) (zx_B_fr (fun i => hFσ_78 2 i (by omega)) (hFσ_78 0 2 (by omega)) q3)) dX12_doOrder_120 mX12_355 rfl (by decide) (by decide) (Nat.le_of_ble_eq_true rfl) (Nat.le_refl _) (fun r120 hr120 pr120 => ?_)
          have t9 := zx_g0 hσ_78
          have t10 : σ_78 0 0 = σ 0 0 := hFσ_78 _ _ (by omega)
          refine zr_istore (pc := 123) hV [some (ZR 0), some (ZI o), some (ZI bits), some (ZI x3_78), some (ZI ((18 * o) + (6 * x3_78))), some (ZI r120), none, none, none] dX12_doOrder_123 (by decide) rfl rfl ?_
          refine zr_aload_n (pc := 125) hV dX12_doOrder_125 rfl rfl ?_
          refine zr_getR (pc := 126) hV 9 6 dX12_doOrder_126 fX12_35 rfl rfl rfl (by decide) (zx_g9 hσ_78) (by omega) ?_
          refine zr_iload (pc := 129) hV dX12_doOrder_129 rfl ?_
          refine zr_iconst (pc := 131) hV 3 dX12_doOrder_131 rfl ?_
          refine zr_iadd (pc := 132) hV dX12_doOrder_132 ?_
          refine zr_iald (pc := 133) hV dX12_doOrder_133 rfl (by decide) rfl (by omega) ?_
          have t11 := zx_ac3 hσ_78 (((18 * o) + (6 * x3_78)) + 3) (by omega)
          have t12 : σ_78 6 (((18 * o) + (6 * x3_78)) + 3) = σ 6 (((18 * o) + (6 * x3_78)) + 3) := hFσ_78 _ _ (by omega)
          have J165 : ∀ (v0_165 : Int), (0 ≤ v0_165 ∧ v0_165 ≤ 255) → (zq_hid (v0_165 = (if 0 < σ 6 ((18 * o + 6 * x3_78) + 3) then zw_va (zu_rf σ o bits) (σ_78 15) (zx_p2 (σ 0 0) - 1) (σ 6 ((18 * o + 6 * x3_78) + 4)) (σ 6 ((18 * o + 6 * x3_78) + 5)) else 0))) → V 165 [some (ZR 0), some (ZI o), some (ZI bits), some (ZI x3_78), some (ZI ((18 * o) + (6 * x3_78))), some (ZI r120), none, none, none] [ZI v0_165] 41 σ_78 := by
            intro v0_165 hv0_165 hi165_0
            show V 165 [some (ZR 0), some (ZI o), some (ZI bits), some (ZI x3_78), some (ZI ((18 * o) + (6 * x3_78))), some (ZI r120), none, none, none] [ZI v0_165] 41 σ_78
            refine zr_istore (pc := 165) hV [some (ZR 0), some (ZI o), some (ZI bits), some (ZI x3_78), some (ZI ((18 * o) + (6 * x3_78))), some (ZI r120), some (ZI v0_165), none, none] dX12_doOrder_165 (by decide) rfl rfl ?_
            refine zr_aload_n (pc := 167) hV dX12_doOrder_167 rfl rfl ?_
            refine zr_getR (pc := 168) hV 9 6 dX12_doOrder_168 fX12_35 rfl rfl rfl (by decide) (zx_g9 hσ_78) (by omega) ?_
            refine zr_iload (pc := 171) hV dX12_doOrder_171 rfl ?_
            refine zr_iconst (pc := 173) hV 3 dX12_doOrder_173 rfl ?_
            refine zr_iadd (pc := 174) hV dX12_doOrder_174 ?_
            refine zr_iald (pc := 175) hV dX12_doOrder_175 rfl (by decide) rfl (by omega) ?_
            have t13 := zx_ac3 hσ_78 (((18 * o) + (6 * x3_78)) + 3) (by omega)
            have t14 : σ_78 6 (((18 * o) + (6 * x3_78)) + 3) = σ 6 (((18 * o) + (6 * x3_78)) + 3) := hFσ_78 _ _ (by omega)
            refine zr_iload (pc := 176) hV dX12_doOrder_176 rfl ?_
            refine zr_iload (pc := 178) hV dX12_doOrder_178 rfl ?_
            refine zr_callSp (pc := 180) hV [ZI (σ_78 6 (((18 * o) + (6 * x3_78)) + 3)), ZI r120, ZI v0_165] (st := []) (c_X12_reckon2 (σ := σ_78) (σ_78 6 (((18 * o) + (6 * x3_78)) + 3)) r120 v0_165 (by omega) (by omega) (by omega)) dX12_doOrder_180 mX12_304 (by decide) (Nat.le_of_ble_eq_true rfl) (Nat.le_refl _) (fun r180 hr180 pr180 => ?_)
            refine zr_aload_n (pc := 183) hV dX12_doOrder_183 rfl rfl ?_
            refine zr_callVp (pc := 184) hV [] (st := [ZI r180]) (c_X12_mask2 (σ := σ_78) hσ_78 ) dX12_doOrder_184 mX12_346 rfl (by decide) (by decide) (Nat.le_of_ble_eq_true rfl) (Nat.le_refl _) (fun r184 hr184 pr184 => ?_)
            have t15 := zx_g0 hσ_78
            have t16 : σ_78 0 0 = σ 0 0 := hFσ_78 _ _ (by omega)
            refine zr_iand (pc := 187) hV dX12_doOrder_187 ?_
            have t17 := zq_and_nnR (x := r180) (y := r184) (by omega)
            refine zr_istore (pc := 188) hV [some (ZR 0), some (ZI o), some (ZI bits), some (ZI x3_78), some (ZI ((18 * o) + (6 * x3_78))), some (ZI r120), some (ZI v0_165), some (ZI (zq_and r180 r184)), none] dX12_doOrder_188 (by decide) rfl rfl ?_
            have v5 : r120 = zw_va (zu_rf σ o bits) (σ_78 15) (zx_p2 (σ 0 0) - 1) (σ 6 ((18 * o + 6 * x3_78) + 1)) (σ 6 ((18 * o + 6 * x3_78) + 2)) := by have z := pr120.2.2; rw [eF, eM, ea1, ea2] at z; exact z
            have vl : zq_and r180 r184 = zw_vl (zu_rf σ o bits) (σ_78 15) (zx_p2 (σ 0 0) - 1) (σ 6) (18 * o + 6 * x3_78) := by unfold zw_vl; rw [← (show v0_165 = (if 0 < σ 6 ((18 * o + 6 * x3_78) + 3) then zw_va (zu_rf σ o bits) (σ_78 15) (zx_p2 (σ 0 0) - 1) (σ 6 ((18 * o + 6 * x3_78) + 4)) (σ 6 ((18 * o + 6 * x3_78) + 5)) else 0) from hi165_0), ← v5, ← ea3]; have z := pr180; have z4 := pr184.2.2; rw [eM] at z4; rw [z, z4]
            refine zr_aload_n (pc := 190) hV dX12_doOrder_190 rfl rfl ?_
            refine zr_getR (pc := 191) hV 9 6 dX12_doOrder_191 fX12_35 rfl rfl rfl (by decide) (zx_g9 hσ_78) (by omega) ?_
            refine zr_iload (pc := 194) hV dX12_doOrder_194 rfl ?_
            refine zr_iald (pc := 196) hV dX12_doOrder_196 rfl (by decide) rfl (by omega) ?_
            have t18 := zx_ac0 hσ_78 ((18 * o) + (6 * x3_78)) (by omega)
            have t19 : σ_78 6 ((18 * o) + (6 * x3_78)) = σ 6 ((18 * o) + (6 * x3_78)) := hFσ_78 _ _ (by omega)
            refine zr_istore (pc := 197) hV [some (ZR 0), some (ZI o), some (ZI bits), some (ZI x3_78), some (ZI ((18 * o) + (6 * x3_78))), some (ZI r120), some (ZI v0_165), some (ZI (zq_and r180 r184)), some (ZI (σ_78 6 ((18 * o) + (6 * x3_78))))] dX12_doOrder_197 (by decide) rfl rfl ?_
            refine zr_iload (pc := 199) hV dX12_doOrder_199 rfl ?_
            refine zr_iconst (pc := 201) hV 3 dX12_doOrder_201 rfl ?_
            refine zr_icmp_ge (pc := 202) hV 223 dX12_doOrder_202 (by decide) (by omega) ⟨by decide, by decide⟩ (fun c20 => ?_) (fun c20 => ?_)
            · show V 223 [some (ZR 0), some (ZI o), some (ZI bits), some (ZI x3_78), some (ZI ((18 * o) + (6 * x3_78))), some (ZI r120), some (ZI v0_165), some (ZI (zq_and r180 r184)), some (ZI (σ_78 6 ((18 * o) + (6 * x3_78))))] [] 41 σ_78
              refine zr_iload (pc := 223) hV dX12_doOrder_223 rfl ?_
              refine zr_iconst (pc := 225) hV 4 dX12_doOrder_225 rfl ?_
              refine zr_icmp_ne (pc := 226) hV 250 dX12_doOrder_226 (by decide) (by omega) ⟨by decide, by decide⟩ (fun c21 => ?_) (fun c21 => ?_)
              · show V 250 [some (ZR 0), some (ZI o), some (ZI bits), some (ZI x3_78), some (ZI ((18 * o) + (6 * x3_78))), some (ZI r120), some (ZI v0_165), some (ZI (zq_and r180 r184)), some (ZI (σ_78 6 ((18 * o) + (6 * x3_78))))] [] 41 σ_78
                refine zr_iload (pc := 250) hV dX12_doOrder_250 rfl ?_
                refine zr_iconst (pc := 252) hV 5 dX12_doOrder_252 rfl ?_
                refine zr_icmp_ne (pc := 253) hV 272 dX12_doOrder_253 (by decide) (by omega) ⟨by decide, by decide⟩ (fun c22 => ?_) (fun c22 => ?_)
                · show V 272 [some (ZR 0), some (ZI o), some (ZI bits), some (ZI x3_78), some (ZI ((18 * o) + (6 * x3_78))), some (ZI r120), some (ZI v0_165), some (ZI (zq_and r180 r184)), some (ZI (σ_78 6 ((18 * o) + (6 * x3_78))))] [] 41 σ_78
                  refine zr_aload_n (pc := 272) hV dX12_doOrder_272 rfl rfl ?_
                  refine zr_getR (pc := 273) hV 24 15 dX12_doOrder_273 fX12_62 rfl rfl rfl (by decide) (zx_g24 hσ_78) (by omega) ?_
                  refine zr_bipush (pc := 276) hV 8 dX12_doOrder_276 (by decide) ?_
                  refine zr_aload_n (pc := 278) hV dX12_doOrder_278 rfl rfl ?_
                  refine zr_iload_n (pc := 279) hV dX12_doOrder_279 rfl rfl ?_
                  refine zr_iload_n (pc := 280) hV dX12_doOrder_280 rfl rfl ?_
                  refine zr_iload (pc := 281) hV dX12_doOrder_281 rfl ?_
                  refine zr_callVp (pc := 283) hV [ZI o, ZI bits, ZI (σ_78 6 ((18 * o) + (6 * x3_78)))] (st := [ZI 8, ZR 15]) (c_X12_addressOf2 (σ := σ_78) hσ_78 o bits (σ_78 6 ((18 * o) + (6 * x3_78))) (by omega) (by omega) (by omega) (zx_B_fr (fun i => hFσ_78 2 i (by omega)) (hFσ_78 0 2 (by omega)) q3)) dX12_doOrder_283 mX12_352 rfl (by decide) (by decide) (Nat.le_of_ble_eq_true rfl) (Nat.le_refl _) (fun r283 hr283 pr283 => ?_)
                  refine zr_iadd (pc := 286) hV dX12_doOrder_286 ?_
                  refine zr_iload (pc := 287) hV dX12_doOrder_287 rfl ?_
                  refine zr_iast (pc := 289) hV dX12_doOrder_289 rfl (by decide) rfl (by omega) (fun σ289 eσ289 => ?_)
                  have hσ289 : zx_T σ289 := zx_ua15 eσ289 hσ_78 (by omega)
                  have hFσ289 : ∀ a i : Int, (a ≠ 15) → σ289 a i = σ a i := fun a i h => by rw [eσ289, zq_up_ne (fun q => h q.1)]; exact hFσ_78 a i h
                  show V 290 [some (ZR 0), some (ZI o), some (ZI bits), some (ZI x3_78), some (ZI ((18 * o) + (6 * x3_78))), some (ZI r120), some (ZI v0_165), some (ZI (zq_and r180 r184)), some (ZI (σ_78 6 ((18 * o) + (6 * x3_78))))] [] 41 σ289
                  refine zr_iinc (pc := 290) hV [some (ZR 0), some (ZI o), some (ZI bits), some (ZI (x3_78 + 1)), some (ZI ((18 * o) + (6 * x3_78))), some (ZI r120), some (ZI v0_165), some (ZI (zq_and r180 r184)), some (ZI (σ_78 6 ((18 * o) + (6 * x3_78))))] (x3_78 + 1) dX12_doOrder_290 rfl rfl (by decide) rfl rfl ?_
                  refine zr_goto (pc := 293) hV 78 dX12_doOrder_293 (by decide) ?_
                  refine zr_sub (pc := 78) hV [some (ZR 0), some (ZI o), some (ZI bits), some (ZI (x3_78 + 1)), none, none, none, none, none] (⟨rfl, rfl, rfl, rfl, trivial⟩) ?_
                  exact ih78 (x3_78 + 1) σ289 (by omega) hσ289 hFσ289 (fun i => by rw [zw_as_s (by omega), ← e15]; show _ = (if i = zw_ix (zu_rf σ o bits) (σ_78 15) (σ 6 (18 * o + 6 * x3_78)) then zw_nv (σ 6 (18 * o + 6 * x3_78)) (zw_vl (zu_rf σ o bits) (σ_78 15) (zx_p2 (σ 0 0) - 1) (σ 6) (18 * o + 6 * x3_78)) else σ_78 15 i); rw [← vl]; have ix : zw_ix (zu_rf σ o bits) (σ_78 15) (σ 6 (18 * o + 6 * x3_78)) = 8 + r283 := (by unfold zw_ix; rw [if_neg (by omega), if_neg (by omega), if_neg (by omega), ← eF]; have z := pr283.2.2; rw [ea0] at z; rw [← z]); rw [ix, eσ289]; by_cases hc : i = 8 + r283; (rw [if_pos hc, hc, zq_up_same]; unfold zw_nv; rw [if_neg (by omega), if_neg (by omega)]); (rw [if_neg hc, zq_up_ne (by omega)])) hi78_1 (by omega) (by omega)
                · show V 256 [some (ZR 0), some (ZI o), some (ZI bits), some (ZI x3_78), some (ZI ((18 * o) + (6 * x3_78))), some (ZI r120), some (ZI v0_165), some (ZI (zq_and r180 r184)), some (ZI (σ_78 6 ((18 * o) + (6 * x3_78))))] [] 41 σ_78
                  refine zr_aload_n (pc := 256) hV dX12_doOrder_256 rfl rfl ?_
                  refine zr_getR (pc := 257) hV 24 15 dX12_doOrder_257 fX12_62 rfl rfl rfl (by decide) (zx_g24 hσ_78) (by omega) ?_
                  refine zr_sipush (pc := 260) hV 265 dX12_doOrder_260 (by decide) ?_
                  refine zr_iload (pc := 263) hV dX12_doOrder_263 rfl ?_
                  refine zr_bipush (pc := 265) hV 64 dX12_doOrder_265 (by decide) ?_
                  refine zr_irem (pc := 267) hV dX12_doOrder_267 ⟨by decide, by decide⟩ (by omega) ?_
                  have t23 := zq_rem_c (x := zq_and r180 r184) 64 (by decide) (by omega)
                  refine zr_iast (pc := 268) hV dX12_doOrder_268 rfl (by decide) rfl (by omega) (fun σ268 eσ268 => ?_)
                  have hσ268 : zx_T σ268 := zx_ua15 eσ268 hσ_78 (by omega)
                  have hFσ268 : ∀ a i : Int, (a ≠ 15) → σ268 a i = σ a i := fun a i h => by rw [eσ268, zq_up_ne (fun q => h q.1)]; exact hFσ_78 a i h
                  refine zr_goto (pc := 269) hV 290 dX12_doOrder_269 (by decide) ?_
                  show V 290 [some (ZR 0), some (ZI o), some (ZI bits), some (ZI x3_78), some (ZI ((18 * o) + (6 * x3_78))), some (ZI r120), some (ZI v0_165), some (ZI (zq_and r180 r184)), some (ZI (σ_78 6 ((18 * o) + (6 * x3_78))))] [] 41 σ268
                  refine zr_iinc (pc := 290) hV [some (ZR 0), some (ZI o), some (ZI bits), some (ZI (x3_78 + 1)), some (ZI ((18 * o) + (6 * x3_78))), some (ZI r120), some (ZI v0_165), some (ZI (zq_and r180 r184)), some (ZI (σ_78 6 ((18 * o) + (6 * x3_78))))] (x3_78 + 1) dX12_doOrder_290 rfl rfl (by decide) rfl rfl ?_
                  refine zr_goto (pc := 293) hV 78 dX12_doOrder_293 (by decide) ?_
                  refine zr_sub (pc := 78) hV [some (ZR 0), some (ZI o), some (ZI bits), some (ZI (x3_78 + 1)), none, none, none, none, none] (⟨rfl, rfl, rfl, rfl, trivial⟩) ?_
                  exact ih78 (x3_78 + 1) σ268 (by omega) hσ268 hFσ268 (fun i => by rw [zw_as_s (by omega), ← e15]; show _ = (if i = zw_ix (zu_rf σ o bits) (σ_78 15) (σ 6 (18 * o + 6 * x3_78)) then zw_nv (σ 6 (18 * o + 6 * x3_78)) (zw_vl (zu_rf σ o bits) (σ_78 15) (zx_p2 (σ 0 0) - 1) (σ 6) (18 * o + 6 * x3_78)) else σ_78 15 i); rw [← vl]; have ix : zw_ix (zu_rf σ o bits) (σ_78 15) (σ 6 (18 * o + 6 * x3_78)) = 265 := (by unfold zw_ix; rw [if_neg (by omega), if_neg (by omega), if_pos (by omega)]); rw [ix, eσ268]; by_cases hc : i = 265; (rw [if_pos hc, hc, zq_up_same]; unfold zw_nv; rw [if_neg (by omega), if_pos (by omega)]; omega); (rw [if_neg hc, zq_up_ne (by omega)])) hi78_1 (by omega) (by omega)
              · show V 229 [some (ZR 0), some (ZI o), some (ZI bits), some (ZI x3_78), some (ZI ((18 * o) + (6 * x3_78))), some (ZI r120), some (ZI v0_165), some (ZI (zq_and r180 r184)), some (ZI (σ_78 6 ((18 * o) + (6 * x3_78))))] [] 41 σ_78
                refine zr_aload_n (pc := 229) hV dX12_doOrder_229 rfl rfl ?_
                refine zr_getR (pc := 230) hV 24 15 dX12_doOrder_230 fX12_62 rfl rfl rfl (by decide) (zx_g24 hσ_78) (by omega) ?_
                refine zr_sipush (pc := 233) hV 264 dX12_doOrder_233 (by decide) ?_
                refine zr_iload (pc := 236) hV dX12_doOrder_236 rfl ?_
                refine zr_if_eq (pc := 238) hV 245 dX12_doOrder_238 (by decide) (by omega) (fun c24 => ?_) (fun c24 => ?_)
                · show V 245 [some (ZR 0), some (ZI o), some (ZI bits), some (ZI x3_78), some (ZI ((18 * o) + (6 * x3_78))), some (ZI r120), some (ZI v0_165), some (ZI (zq_and r180 r184)), some (ZI (σ_78 6 ((18 * o) + (6 * x3_78))))] [ZI 264, ZR 15] 41 σ_78
                  refine zr_iconst (pc := 245) hV 0 dX12_doOrder_245 rfl ?_
                  show V 246 [some (ZR 0), some (ZI o), some (ZI bits), some (ZI x3_78), some (ZI ((18 * o) + (6 * x3_78))), some (ZI r120), some (ZI v0_165), some (ZI (zq_and r180 r184)), some (ZI (σ_78 6 ((18 * o) + (6 * x3_78))))] [ZI 0, ZI 264, ZR 15] 41 σ_78
                  refine zr_iast (pc := 246) hV dX12_doOrder_246 rfl (by decide) rfl (by omega) (fun σ246 eσ246 => ?_)
                  have hσ246 : zx_T σ246 := zx_ua15 eσ246 hσ_78 (by omega)
                  have hFσ246 : ∀ a i : Int, (a ≠ 15) → σ246 a i = σ a i := fun a i h => by rw [eσ246, zq_up_ne (fun q => h q.1)]; exact hFσ_78 a i h
                  refine zr_goto (pc := 247) hV 290 dX12_doOrder_247 (by decide) ?_
                  show V 290 [some (ZR 0), some (ZI o), some (ZI bits), some (ZI x3_78), some (ZI ((18 * o) + (6 * x3_78))), some (ZI r120), some (ZI v0_165), some (ZI (zq_and r180 r184)), some (ZI (σ_78 6 ((18 * o) + (6 * x3_78))))] [] 41 σ246
                  refine zr_iinc (pc := 290) hV [some (ZR 0), some (ZI o), some (ZI bits), some (ZI (x3_78 + 1)), some (ZI ((18 * o) + (6 * x3_78))), some (ZI r120), some (ZI v0_165), some (ZI (zq_and r180 r184)), some (ZI (σ_78 6 ((18 * o) + (6 * x3_78))))] (x3_78 + 1) dX12_doOrder_290 rfl rfl (by decide) rfl rfl ?_
                  refine zr_goto (pc := 293) hV 78 dX12_doOrder_293 (by decide) ?_
                  refine zr_sub (pc := 78) hV [some (ZR 0), some (ZI o), some (ZI bits), some (ZI (x3_78 + 1)), none, none, none, none, none] (⟨rfl, rfl, rfl, rfl, trivial⟩) ?_
                  exact ih78 (x3_78 + 1) σ246 (by omega) hσ246 hFσ246 (fun i => by rw [zw_as_s (by omega), ← e15]; show _ = (if i = zw_ix (zu_rf σ o bits) (σ_78 15) (σ 6 (18 * o + 6 * x3_78)) then zw_nv (σ 6 (18 * o + 6 * x3_78)) (zw_vl (zu_rf σ o bits) (σ_78 15) (zx_p2 (σ 0 0) - 1) (σ 6) (18 * o + 6 * x3_78)) else σ_78 15 i); rw [← vl]; have ix : zw_ix (zu_rf σ o bits) (σ_78 15) (σ 6 (18 * o + 6 * x3_78)) = 264 := (by unfold zw_ix; rw [if_neg (by omega), if_pos (by omega)]); rw [ix, eσ246]; by_cases hc : i = 264; (rw [if_pos hc, hc, zq_up_same]; unfold zw_nv; rw [if_pos (by omega)]; first | rw [if_pos (by omega)] | rw [if_neg (by omega)]); (rw [if_neg hc, zq_up_ne (by omega)])) hi78_1 (by omega) (by omega)
                · show V 241 [some (ZR 0), some (ZI o), some (ZI bits), some (ZI x3_78), some (ZI ((18 * o) + (6 * x3_78))), some (ZI r120), some (ZI v0_165), some (ZI (zq_and r180 r184)), some (ZI (σ_78 6 ((18 * o) + (6 * x3_78))))] [ZI 264, ZR 15] 41 σ_78
                  refine zr_iconst (pc := 241) hV 1 dX12_doOrder_241 rfl ?_
                  refine zr_goto (pc := 242) hV 246 dX12_doOrder_242 (by decide) ?_
                  show V 246 [some (ZR 0), some (ZI o), some (ZI bits), some (ZI x3_78), some (ZI ((18 * o) + (6 * x3_78))), some (ZI r120), some (ZI v0_165), some (ZI (zq_and r180 r184)), some (ZI (σ_78 6 ((18 * o) + (6 * x3_78))))] [ZI 1, ZI 264, ZR 15] 41 σ_78
                  refine zr_iast (pc := 246) hV dX12_doOrder_246 rfl (by decide) rfl (by omega) (fun σ246 eσ246 => ?_)
                  have hσ246 : zx_T σ246 := zx_ua15 eσ246 hσ_78 (by omega)
                  have hFσ246 : ∀ a i : Int, (a ≠ 15) → σ246 a i = σ a i := fun a i h => by rw [eσ246, zq_up_ne (fun q => h q.1)]; exact hFσ_78 a i h
                  refine zr_goto (pc := 247) hV 290 dX12_doOrder_247 (by decide) ?_
                  show V 290 [some (ZR 0), some (ZI o), some (ZI bits), some (ZI x3_78), some (ZI ((18 * o) + (6 * x3_78))), some (ZI r120), some (ZI v0_165), some (ZI (zq_and r180 r184)), some (ZI (σ_78 6 ((18 * o) + (6 * x3_78))))] [] 41 σ246
                  refine zr_iinc (pc := 290) hV [some (ZR 0), some (ZI o), some (ZI bits), some (ZI (x3_78 + 1)), some (ZI ((18 * o) + (6 * x3_78))), some (ZI r120), some (ZI v0_165), some (ZI (zq_and r180 r184)), some (ZI (σ_78 6 ((18 * o) + (6 * x3_78))))] (x3_78 + 1) dX12_doOrder_290 rfl rfl (by decide) rfl rfl ?_
                  refine zr_goto (pc := 293) hV 78 dX12_doOrder_293 (by decide) ?_
                  refine zr_sub (pc := 78) hV [some (ZR 0), some (ZI o), some (ZI bits), some (ZI (x3_78 + 1)), none, none, none, none, none] (⟨rfl, rfl, rfl, rfl, trivial⟩) ?_
                  exact ih78 (x3_78 + 1) σ246 (by omega) hσ246 hFσ246 (fun i => by rw [zw_as_s (by omega), ← e15]; show _ = (if i = zw_ix (zu_rf σ o bits) (σ_78 15) (σ 6 (18 * o + 6 * x3_78)) then zw_nv (σ 6 (18 * o + 6 * x3_78)) (zw_vl (zu_rf σ o bits) (σ_78 15) (zx_p2 (σ 0 0) - 1) (σ 6) (18 * o + 6 * x3_78)) else σ_78 15 i); rw [← vl]; have ix : zw_ix (zu_rf σ o bits) (σ_78 15) (σ 6 (18 * o + 6 * x3_78)) = 264 := (by unfold zw_ix; rw [if_neg (by omega), if_pos (by omega)]); rw [ix, eσ246]; by_cases hc : i = 264; (rw [if_pos hc, hc, zq_up_same]; unfold zw_nv; rw [if_pos (by omega)]; first | rw [if_pos (by omega)] | rw [if_neg (by omega)]); (rw [if_neg hc, zq_up_ne (by omega)])) hi78_1 (by omega) (by omega)
            · show V 205 [some (ZR 0), some (ZI o), some (ZI bits), some (ZI x3_78), some (ZI ((18 * o) + (6 * x3_78))), some (ZI r120), some (ZI v0_165), some (ZI (zq_and r180 r184)), some (ZI (σ_78 6 ((18 * o) + (6 * x3_78))))] [] 41 σ_78
              refine zr_aload_n (pc := 205) hV dX12_doOrder_205 rfl rfl ?_
              refine zr_getR (pc := 206) hV 24 15 dX12_doOrder_206 fX12_62 rfl rfl rfl (by decide) (zx_g24 hσ_78) (by omega) ?_
              refine zr_aload_n (pc := 209) hV dX12_doOrder_209 rfl rfl ?_
              refine zr_iload_n (pc := 210) hV dX12_doOrder_210 rfl rfl ?_
              refine zr_iload_n (pc := 211) hV dX12_doOrder_211 rfl rfl ?_
              refine zr_iload (pc := 212) hV dX12_doOrder_212 rfl ?_
              refine zr_callVp (pc := 214) hV [ZI o, ZI bits, ZI (σ_78 6 ((18 * o) + (6 * x3_78)))] (st := [ZR 15]) (c_X12_fieldOf2 (σ := σ_78) hσ_78 o bits (σ_78 6 ((18 * o) + (6 * x3_78))) (by omega) (by omega) (by omega) (zx_B_fr (fun i => hFσ_78 2 i (by omega)) (hFσ_78 0 2 (by omega)) q3)) dX12_doOrder_214 mX12_289 rfl (by decide) (by decide) (Nat.le_of_ble_eq_true rfl) (Nat.le_refl _) (fun r214 hr214 pr214 => ?_)
              refine zr_iload (pc := 217) hV dX12_doOrder_217 rfl ?_
              refine zr_iast (pc := 219) hV dX12_doOrder_219 rfl (by decide) rfl (by omega) (fun σ219 eσ219 => ?_)
              have hσ219 : zx_T σ219 := zx_ua15 eσ219 hσ_78 (by omega)
              have hFσ219 : ∀ a i : Int, (a ≠ 15) → σ219 a i = σ a i := fun a i h => by rw [eσ219, zq_up_ne (fun q => h q.1)]; exact hFσ_78 a i h
              refine zr_goto (pc := 220) hV 290 dX12_doOrder_220 (by decide) ?_
              show V 290 [some (ZR 0), some (ZI o), some (ZI bits), some (ZI x3_78), some (ZI ((18 * o) + (6 * x3_78))), some (ZI r120), some (ZI v0_165), some (ZI (zq_and r180 r184)), some (ZI (σ_78 6 ((18 * o) + (6 * x3_78))))] [] 41 σ219
              refine zr_iinc (pc := 290) hV [some (ZR 0), some (ZI o), some (ZI bits), some (ZI (x3_78 + 1)), some (ZI ((18 * o) + (6 * x3_78))), some (ZI r120), some (ZI v0_165), some (ZI (zq_and r180 r184)), some (ZI (σ_78 6 ((18 * o) + (6 * x3_78))))] (x3_78 + 1) dX12_doOrder_290 rfl rfl (by decide) rfl rfl ?_
              refine zr_goto (pc := 293) hV 78 dX12_doOrder_293 (by decide) ?_
              refine zr_sub (pc := 78) hV [some (ZR 0), some (ZI o), some (ZI bits), some (ZI (x3_78 + 1)), none, none, none, none, none] (⟨rfl, rfl, rfl, rfl, trivial⟩) ?_
              exact ih78 (x3_78 + 1) σ219 (by omega) hσ219 hFσ219 (fun i => by rw [zw_as_s (by omega), ← e15]; show _ = (if i = zw_ix (zu_rf σ o bits) (σ_78 15) (σ 6 (18 * o + 6 * x3_78)) then zw_nv (σ 6 (18 * o + 6 * x3_78)) (zw_vl (zu_rf σ o bits) (σ_78 15) (zx_p2 (σ 0 0) - 1) (σ 6) (18 * o + 6 * x3_78)) else σ_78 15 i); rw [← vl]; have ix : zw_ix (zu_rf σ o bits) (σ_78 15) (σ 6 (18 * o + 6 * x3_78)) = r214 := (by unfold zw_ix; rw [if_pos (by omega), ← eF]; have z := pr214.2.2.2; rw [ea0] at z; exact z.symm); rw [ix, eσ219]; by_cases hc : i = r214; (rw [if_pos hc, hc, zq_up_same]; unfold zw_nv; rw [if_neg (by omega), if_neg (by omega)]); (rw [if_neg hc, zq_up_ne (by omega)])) hi78_1 (by omega) (by omega)
          refine zr_if_le (pc := 134) hV 164 dX12_doOrder_134 (by decide) (by omega) (fun c25 => ?_) (fun c25 => ?_)
          · show V 164 [some (ZR 0), some (ZI o), some (ZI bits), some (ZI x3_78), some (ZI ((18 * o) + (6 * x3_78))), some (ZI r120), none, none, none] [] 41 σ_78
            refine zr_iconst (pc := 164) hV 0 dX12_doOrder_164 rfl ?_
            exact J165 0 (by omega) (by unfold zq_hid; rw [if_neg (by omega)])
          · show V 137 [some (ZR 0), some (ZI o), some (ZI bits), some (ZI x3_78), some (ZI ((18 * o) + (6 * x3_78))), some (ZI r120), none, none, none] [] 41 σ_78
            refine zr_aload_n (pc := 137) hV dX12_doOrder_137 rfl rfl ?_
            refine zr_iload_n (pc := 138) hV dX12_doOrder_138 rfl rfl ?_
            refine zr_iload_n (pc := 139) hV dX12_doOrder_139 rfl rfl ?_
            refine zr_aload_n (pc := 140) hV dX12_doOrder_140 rfl rfl ?_
            refine zr_getR (pc := 141) hV 9 6 dX12_doOrder_141 fX12_35 rfl rfl rfl (by decide) (zx_g9 hσ_78) (by omega) ?_
            refine zr_iload (pc := 144) hV dX12_doOrder_144 rfl ?_
            refine zr_iconst (pc := 146) hV 4 dX12_doOrder_146 rfl ?_
            refine zr_iadd (pc := 147) hV dX12_doOrder_147 ?_
            refine zr_iald (pc := 148) hV dX12_doOrder_148 rfl (by decide) rfl (by omega) ?_
            have t26 := zx_ac4 hσ_78 (((18 * o) + (6 * x3_78)) + 4) (by omega)
            have t27 : σ_78 6 (((18 * o) + (6 * x3_78)) + 4) = σ 6 (((18 * o) + (6 * x3_78)) + 4) := hFσ_78 _ _ (by omega)
            have za := q2 x3_78 (by omega) (by omega)
            refine zr_aload_n (pc := 149) hV dX12_doOrder_149 rfl rfl ?_
            refine zr_getR (pc := 150) hV 9 6 dX12_doOrder_150 fX12_35 rfl rfl rfl (by decide) (zx_g9 hσ_78) (by omega) ?_
            refine zr_iload (pc := 153) hV dX12_doOrder_153 rfl ?_
            refine zr_iconst (pc := 155) hV 5 dX12_doOrder_155 rfl ?_
            refine zr_iadd (pc := 156) hV dX12_doOrder_156 ?_
            refine zr_iald (pc := 157) hV dX12_doOrder_157 rfl (by decide) rfl (by omega) ?_
            have t28 := zx_ac hσ_78 (((18 * o) + (6 * x3_78)) + 5)
            have t29 : σ_78 6 (((18 * o) + (6 * x3_78)) + 5) = σ 6 (((18 * o) + (6 * x3_78)) + 5) := hFσ_78 _ _ (by omega)
            refine zr_callVp (pc := 158) hV [ZI o, ZI bits, ZI (σ_78 6 (((18 * o) + (6 * x3_78)) + 4)), ZI (σ_78 6 (((18 * o) + (6 * x3_78)) + 5))] (st := []) (c_X12_valueOf2 (σ := σ_78) hσ_78 o bits (σ_78 6 (((18 * o) + (6 * x3_78)) + 4)) (σ_78 6 (((18 * o) + (6 * x3_78)) + 5)) (by omega) (by omega) (by omega) (by omega) (zx_B_fr (fun i => hFσ_78 2 i (by omega)) (hFσ_78 0 2 (by omega)) q3)) dX12_doOrder_158 mX12_355 rfl (by decide) (by decide) (Nat.le_of_ble_eq_true rfl) (Nat.le_refl _) (fun r158 hr158 pr158 => ?_)
            have t30 := zx_g0 hσ_78
            have t31 : σ_78 0 0 = σ 0 0 := hFσ_78 _ _ (by omega)
            refine zr_goto (pc := 161) hV 165 dX12_doOrder_161 (by decide) ?_
            exact J165 r158 (by omega) (by unfold zq_hid; rw [if_pos (by omega)]; have z := pr158.2.2; rw [eF, eM, ea4, ea5] at z; exact z)
    exact L78 (3 - (0 : Int) + 1 : Int).toNat 0 σ (by omega) hσ (fun a i _ => rfl) (fun i => by rw [zw_as_0]) hi76_0 (by omega) (by omega)
  refine zr_if_le (pc := 6) hV 76 dX12_doOrder_6 (by decide) (by omega) (fun c32 => ?_) (fun c32 => ?_)
  · exact J76 (by unfold zq_hid zw_gd; first | exact Or.inl (by omega) | exact Or.inr (by rw [if_pos (by omega)]; omega) | exact Or.inr (by rw [if_neg (by omega), ← pr43.2.2.2]; omega))
  · show V 9 [some (ZR 0), some (ZI o), some (ZI bits), none, none, none, none, none, none] [] 41 σ
    refine zr_aload_n (pc := 9) hV dX12_doOrder_9 rfl rfl ?_
    refine zr_getR (pc := 10) hV 7 4 dX12_doOrder_10 fX12_29 rfl rfl rfl (by decide) (zx_g7 hσ) (by omega) ?_
    refine zr_iload_n (pc := 13) hV dX12_doOrder_13 rfl rfl ?_
    refine zr_iald (pc := 14) hV dX12_doOrder_14 rfl (by decide) rfl (by omega) ?_
    have t33 := zx_ga4 hσ o
    refine zr_iconst (pc := 15) hV 4 dX12_doOrder_15 rfl ?_
    refine zr_icmp_ne (pc := 16) hV 30 dX12_doOrder_16 (by decide) (by omega) ⟨by decide, by decide⟩ (fun c34 => ?_) (fun c34 => ?_)
    · show V 30 [some (ZR 0), some (ZI o), some (ZI bits), none, none, none, none, none, none] [] 41 σ
      refine zr_aload_n (pc := 30) hV dX12_doOrder_30 rfl rfl ?_
      refine zr_getR (pc := 31) hV 24 15 dX12_doOrder_31 fX12_62 rfl rfl rfl (by decide) (zx_g24 hσ) (by omega) ?_
      refine zr_aload_n (pc := 34) hV dX12_doOrder_34 rfl rfl ?_
      refine zr_iload_n (pc := 35) hV dX12_doOrder_35 rfl rfl ?_
      refine zr_iload_n (pc := 36) hV dX12_doOrder_36 rfl rfl ?_
      refine zr_aload_n (pc := 37) hV dX12_doOrder_37 rfl rfl ?_
      refine zr_getR (pc := 38) hV 7 4 dX12_doOrder_38 fX12_29 rfl rfl rfl (by decide) (zx_g7 hσ) (by omega) ?_
      refine zr_iload_n (pc := 41) hV dX12_doOrder_41 rfl rfl ?_
      refine zr_iald (pc := 42) hV dX12_doOrder_42 rfl (by decide) rfl (by omega) ?_
      have t35 := zx_ga4 hσ o
      refine zr_callVp (pc := 43) hV [ZI o, ZI bits, ZI (σ 4 o)] (st := [ZR 15]) (c_X12_fieldOf2 (σ := σ) hσ o bits (σ 4 o) (by omega) (by omega) (by omega) q3) dX12_doOrder_43 mX12_289 rfl (by decide) (by decide) (Nat.le_of_ble_eq_true rfl) (Nat.le_refl _) (fun r43 hr43 pr43 => ?_)
      refine zr_iald (pc := 46) hV dX12_doOrder_46 rfl (by decide) rfl (by omega) ?_
      have t36 := zx_stW hσ r43 (by omega)
      show V 47 [some (ZR 0), some (ZI o), some (ZI bits), none, none, none, none, none, none] [ZI (σ 15 r43)] 41 σ
      refine zr_istore_n (pc := 47) hV [some (ZR 0), some (ZI o), some (ZI bits), some (ZI (σ 15 r43)), none, none, none, none, none] dX12_doOrder_47 rfl (by decide) rfl rfl ?_
      refine zr_iload_n (pc := 48) hV dX12_doOrder_48 rfl rfl ?_
      refine zr_if_eq (pc := 49) hV 56 dX12_doOrder_49 (by decide) (by omega) (fun c37 => ?_) (fun c37 => ?_)
      · show V 56 [some (ZR 0), some (ZI o), some (ZI bits), some (ZI (σ 15 r43)), none, none, none, none, none] [] 41 σ
        refine zr_iconst (pc := 56) hV 0 dX12_doOrder_56 rfl ?_
        show V 57 [some (ZR 0), some (ZI o), some (ZI bits), some (ZI (σ 15 r43)), none, none, none, none, none] [ZI 0] 41 σ
        refine zr_aload_n (pc := 57) hV dX12_doOrder_57 rfl rfl ?_
        refine zr_getR (pc := 58) hV 6 3 dX12_doOrder_58 fX12_26 rfl rfl rfl (by decide) (zx_g6 hσ) (by omega) ?_
        refine zr_iload_n (pc := 61) hV dX12_doOrder_61 rfl rfl ?_
        refine zr_iald (pc := 62) hV dX12_doOrder_62 rfl (by decide) rfl (by omega) ?_
        have t38 := zx_ga3 hσ o
        refine zr_iconst (pc := 63) hV 1 dX12_doOrder_63 rfl ?_
        refine zr_icmp_ne (pc := 64) hV 71 dX12_doOrder_64 (by decide) (by omega) ⟨by decide, by decide⟩ (fun c39 => ?_) (fun c39 => ?_)
        · show V 71 [some (ZR 0), some (ZI o), some (ZI bits), some (ZI (σ 15 r43)), none, none, none, none, none] [ZI 0] 41 σ
          refine zr_iconst (pc := 71) hV 0 dX12_doOrder_71 rfl ?_
          show V 72 [some (ZR 0), some (ZI o), some (ZI bits), some (ZI (σ 15 r43)), none, none, none, none, none] [ZI 0, ZI 0] 41 σ
          refine zr_icmp_eq (pc := 72) hV 76 dX12_doOrder_72 (by decide) ⟨by decide, by decide⟩ ⟨by decide, by decide⟩ (fun c40 => ?_) (fun c40 => ?_)
          · refine zr_sub (pc := 76) hV [some (ZR 0), some (ZI o), some (ZI bits), none, none, none, none, none, none] (⟨rfl, rfl, rfl, trivial⟩) ?_
            exact J76 (by unfold zq_hid zw_gd; first | exact Or.inl (by omega) | exact Or.inr (by rw [if_pos (by omega)]; omega) | exact Or.inr (by rw [if_neg (by omega), ← pr43.2.2.2]; omega))
          · exfalso; omega
        · show V 67 [some (ZR 0), some (ZI o), some (ZI bits), some (ZI (σ 15 r43)), none, none, none, none, none] [ZI 0] 41 σ
          refine zr_iconst (pc := 67) hV 1 dX12_doOrder_67 rfl ?_
          refine zr_goto (pc := 68) hV 72 dX12_doOrder_68 (by decide) ?_
          show V 72 [some (ZR 0), some (ZI o), some (ZI bits), some (ZI (σ 15 r43)), none, none, none, none, none] [ZI 1, ZI 0] 41 σ
          refine zr_icmp_eq (pc := 72) hV 76 dX12_doOrder_72 (by decide) ⟨by decide, by decide⟩ ⟨by decide, by decide⟩ (fun c41 => ?_) (fun c41 => ?_)
          · exfalso; omega
          · show V 75 [some (ZR 0), some (ZI o), some (ZI bits), some (ZI (σ 15 r43)), none, none, none, none, none] [] 41 σ
            exact zr_vret (pc := 75) hV dX12_doOrder_75 rfl rfl ⟨rfl, hσ, (fun a i _ => rfl), trivial, (show ∀ i, σ 15 i = zw_do (zu_rf σ o bits) (zx_p2 (σ 0 0) - 1) (σ 6) o (σ 3 o) (σ 4 o) (σ 5 o) (σ 15) i from (fun i => by rw [zw_do_n (fun q => by rcases q with q | q; omega; first | (rw [if_pos (by omega)] at q; omega) | (rw [if_neg (by omega), ← pr43.2.2.2] at q; omega))]))⟩
      · show V 52 [some (ZR 0), some (ZI o), some (ZI bits), some (ZI (σ 15 r43)), none, none, none, none, none] [] 41 σ
        refine zr_iconst (pc := 52) hV 1 dX12_doOrder_52 rfl ?_
        refine zr_goto (pc := 53) hV 57 dX12_doOrder_53 (by decide) ?_
        show V 57 [some (ZR 0), some (ZI o), some (ZI bits), some (ZI (σ 15 r43)), none, none, none, none, none] [ZI 1] 41 σ
        refine zr_aload_n (pc := 57) hV dX12_doOrder_57 rfl rfl ?_
        refine zr_getR (pc := 58) hV 6 3 dX12_doOrder_58 fX12_26 rfl rfl rfl (by decide) (zx_g6 hσ) (by omega) ?_
        refine zr_iload_n (pc := 61) hV dX12_doOrder_61 rfl rfl ?_
        refine zr_iald (pc := 62) hV dX12_doOrder_62 rfl (by decide) rfl (by omega) ?_
        have t42 := zx_ga3 hσ o
        refine zr_iconst (pc := 63) hV 1 dX12_doOrder_63 rfl ?_
        refine zr_icmp_ne (pc := 64) hV 71 dX12_doOrder_64 (by decide) (by omega) ⟨by decide, by decide⟩ (fun c43 => ?_) (fun c43 => ?_)
        · show V 71 [some (ZR 0), some (ZI o), some (ZI bits), some (ZI (σ 15 r43)), none, none, none, none, none] [ZI 1] 41 σ
          refine zr_iconst (pc := 71) hV 0 dX12_doOrder_71 rfl ?_
          show V 72 [some (ZR 0), some (ZI o), some (ZI bits), some (ZI (σ 15 r43)), none, none, none, none, none] [ZI 0, ZI 1] 41 σ
          refine zr_icmp_eq (pc := 72) hV 76 dX12_doOrder_72 (by decide) ⟨by decide, by decide⟩ ⟨by decide, by decide⟩ (fun c44 => ?_) (fun c44 => ?_)
          · exfalso; omega
          · show V 75 [some (ZR 0), some (ZI o), some (ZI bits), some (ZI (σ 15 r43)), none, none, none, none, none] [] 41 σ
            exact zr_vret (pc := 75) hV dX12_doOrder_75 rfl rfl ⟨rfl, hσ, (fun a i _ => rfl), trivial, (show ∀ i, σ 15 i = zw_do (zu_rf σ o bits) (zx_p2 (σ 0 0) - 1) (σ 6) o (σ 3 o) (σ 4 o) (σ 5 o) (σ 15) i from (fun i => by rw [zw_do_n (fun q => by rcases q with q | q; omega; first | (rw [if_pos (by omega)] at q; omega) | (rw [if_neg (by omega), ← pr43.2.2.2] at q; omega))]))⟩
        · show V 67 [some (ZR 0), some (ZI o), some (ZI bits), some (ZI (σ 15 r43)), none, none, none, none, none] [ZI 1] 41 σ
          refine zr_iconst (pc := 67) hV 1 dX12_doOrder_67 rfl ?_
          refine zr_goto (pc := 68) hV 72 dX12_doOrder_68 (by decide) ?_
          show V 72 [some (ZR 0), some (ZI o), some (ZI bits), some (ZI (σ 15 r43)), none, none, none, none, none] [ZI 1, ZI 1] 41 σ
          refine zr_icmp_eq (pc := 72) hV 76 dX12_doOrder_72 (by decide) ⟨by decide, by decide⟩ ⟨by decide, by decide⟩ (fun c45 => ?_) (fun c45 => ?_)
          · refine zr_sub (pc := 76) hV [some (ZR 0), some (ZI o), some (ZI bits), none, none, none, none, none, none] (⟨rfl, rfl, rfl, trivial⟩) ?_
            exact J76 (by unfold zq_hid zw_gd; first | exact Or.inl (by omega) | exact Or.inr (by rw [if_pos (by omega)]; omega) | exact Or.inr (by rw [if_neg (by omega), ← pr43.2.2.2]; omega))
          · exfalso; omega
    · show V 19 [some (ZR 0), some (ZI o), some (ZI bits), none, none, none, none, none, none] [] 41 σ
      refine zr_aload_n (pc := 19) hV dX12_doOrder_19 rfl rfl ?_
      refine zr_getR (pc := 20) hV 24 15 dX12_doOrder_20 fX12_62 rfl rfl rfl (by decide) (zx_g24 hσ) (by omega) ?_
      refine zr_sipush (pc := 23) hV 264 dX12_doOrder_23 (by decide) ?_
      refine zr_iald (pc := 26) hV dX12_doOrder_26 rfl (by decide) rfl (by omega) ?_
      have t46 := zx_stZ hσ
      refine zr_goto (pc := 27) hV 47 dX12_doOrder_27 (by decide) ?_
      show V 47 [some (ZR 0), some (ZI o), some (ZI bits), none, none, none, none, none, none] [ZI (σ 15 264)] 41 σ
      refine zr_istore_n (pc := 47) hV [some (ZR 0), some (ZI o), some (ZI bits), some (ZI (σ 15 264)), none, none, none, none, none] dX12_doOrder_47 rfl (by decide) rfl rfl ?_
      refine zr_iload_n (pc := 48) hV dX12_doOrder_48 rfl rfl ?_
      refine zr_if_eq (pc := 49) hV 56 dX12_doOrder_49 (by decide) (by omega) (fun c47 => ?_) (fun c47 => ?_)
      · show V 56 [some (ZR 0), some (ZI o), some (ZI bits), some (ZI (σ 15 264)), none, none, none, none, none] [] 41 σ
        refine zr_iconst (pc := 56) hV 0 dX12_doOrder_56 rfl ?_
        show V 57 [some (ZR 0), some (ZI o), some (ZI bits), some (ZI (σ 15 264)), none, none, none, none, none] [ZI 0] 41 σ
        refine zr_aload_n (pc := 57) hV dX12_doOrder_57 rfl rfl ?_
        refine zr_getR (pc := 58) hV 6 3 dX12_doOrder_58 fX12_26 rfl rfl rfl (by decide) (zx_g6 hσ) (by omega) ?_
        refine zr_iload_n (pc := 61) hV dX12_doOrder_61 rfl rfl ?_
        refine zr_iald (pc := 62) hV dX12_doOrder_62 rfl (by decide) rfl (by omega) ?_
        have t48 := zx_ga3 hσ o
        refine zr_iconst (pc := 63) hV 1 dX12_doOrder_63 rfl ?_
        refine zr_icmp_ne (pc := 64) hV 71 dX12_doOrder_64 (by decide) (by omega) ⟨by decide, by decide⟩ (fun c49 => ?_) (fun c49 => ?_)
        · show V 71 [some (ZR 0), some (ZI o), some (ZI bits), some (ZI (σ 15 264)), none, none, none, none, none] [ZI 0] 41 σ
          refine zr_iconst (pc := 71) hV 0 dX12_doOrder_71 rfl ?_
          show V 72 [some (ZR 0), some (ZI o), some (ZI bits), some (ZI (σ 15 264)), none, none, none, none, none] [ZI 0, ZI 0] 41 σ
          refine zr_icmp_eq (pc := 72) hV 76 dX12_doOrder_72 (by decide) ⟨by decide, by decide⟩ ⟨by decide, by decide⟩ (fun c50 => ?_) (fun c50 => ?_)
          · refine zr_sub (pc := 76) hV [some (ZR 0), some (ZI o), some (ZI bits), none, none, none, none, none, none] (⟨rfl, rfl, rfl, trivial⟩) ?_
            exact J76 (by unfold zq_hid zw_gd; first | exact Or.inl (by omega) | exact Or.inr (by rw [if_pos (by omega)]; omega) | exact Or.inr (by rw [if_neg (by omega), ← pr43.2.2.2]; omega))
          · exfalso; omega
        · show V 67 [some (ZR 0), some (ZI o), some (ZI bits), some (ZI (σ 15 264)), none, none, none, none, none] [ZI 0] 41 σ
          refine zr_iconst (pc := 67) hV 1 dX12_doOrder_67 rfl ?_
          refine zr_goto (pc := 68) hV 72 dX12_doOrder_68 (by decide) ?_
          show V 72 [some (ZR 0), some (ZI o), some (ZI bits), some (ZI (σ 15 264)), none, none, none, none, none] [ZI 1, ZI 0] 41 σ
          refine zr_icmp_eq (pc := 72) hV 76 dX12_doOrder_72 (by decide) ⟨by decide, by decide⟩ ⟨by decide, by decide⟩ (fun c51 => ?_) (fun c51 => ?_)
          · exfalso; omega
          · show V 75 [some (ZR 0), some (ZI o), some (ZI bits), some (ZI (σ 15 264)), none, none, none, none, none] [] 41 σ
            exact zr_vret (pc := 75) hV dX12_doOrder_75 rfl rfl ⟨rfl, hσ, (fun a i _ => rfl), trivial, (show ∀ i, σ 15 i = zw_do (zu_rf σ o bits) (zx_p2 (σ 0 0) - 1) (σ 6) o (σ 3 o) (σ 4 o) (σ 5 o) (σ 15) i from (fun i => by rw [zw_do_n (fun q => by rcases q with q | q; omega; first | (rw [if_pos (by omega)] at q; omega) | (rw [if_neg (by omega), ← pr43.2.2.2] at q; omega))]))⟩
      · show V 52 [some (ZR 0), some (ZI o), some (ZI bits), some (ZI (σ 15 264)), none, none, none, none, none] [] 41 σ
        refine zr_iconst (pc := 52) hV 1 dX12_doOrder_52 rfl ?_
        refine zr_goto (pc := 53) hV 57 dX12_doOrder_53 (by decide) ?_
        show V 57 [some (ZR 0), some (ZI o), some (ZI bits), some (ZI (σ 15 264)), none, none, none, none, none] [ZI 1] 41 σ
        refine zr_aload_n (pc := 57) hV dX12_doOrder_57 rfl rfl ?_
        refine zr_getR (pc := 58) hV 6 3 dX12_doOrder_58 fX12_26 rfl rfl rfl (by decide) (zx_g6 hσ) (by omega) ?_
        refine zr_iload_n (pc := 61) hV dX12_doOrder_61 rfl rfl ?_
        refine zr_iald (pc := 62) hV dX12_doOrder_62 rfl (by decide) rfl (by omega) ?_
        have t52 := zx_ga3 hσ o
        refine zr_iconst (pc := 63) hV 1 dX12_doOrder_63 rfl ?_
        refine zr_icmp_ne (pc := 64) hV 71 dX12_doOrder_64 (by decide) (by omega) ⟨by decide, by decide⟩ (fun c53 => ?_) (fun c53 => ?_)
        · show V 71 [some (ZR 0), some (ZI o), some (ZI bits), some (ZI (σ 15 264)), none, none, none, none, none] [ZI 1] 41 σ
          refine zr_iconst (pc := 71) hV 0 dX12_doOrder_71 rfl ?_
          show V 72 [some (ZR 0), some (ZI o), some (ZI bits), some (ZI (σ 15 264)), none, none, none, none, none] [ZI 0, ZI 1] 41 σ
          refine zr_icmp_eq (pc := 72) hV 76 dX12_doOrder_72 (by decide) ⟨by decide, by decide⟩ ⟨by decide, by decide⟩ (fun c54 => ?_) (fun c54 => ?_)
          · exfalso; omega
          · show V 75 [some (ZR 0), some (ZI o), some (ZI bits), some (ZI (σ 15 264)), none, none, none, none, none] [] 41 σ
            exact zr_vret (pc := 75) hV dX12_doOrder_75 rfl rfl ⟨rfl, hσ, (fun a i _ => rfl), trivial, (show ∀ i, σ 15 i = zw_do (zu_rf σ o bits) (zx_p2 (σ 0 0) - 1) (σ 6) o (σ 3 o) (σ 4 o) (σ 5 o) (σ 15) i from (fun i => by rw [zw_do_n (fun q => by rcases q with q | q; omega; first | (rw [if_pos (by omega)] at q; omega) | (rw [if_neg (by omega), ← pr43.2.2.2] at q; omega))]))⟩
        · show V 67 [some (ZR 0), some (ZI o), some (ZI bits), some (ZI (σ 15 264)), none, none, none, none, none] [ZI 1] 41 σ
          refine zr_iconst (pc := 67) hV 1 dX12_doOrder_67 rfl ?_
          refine zr_goto (pc := 68) hV 72 dX12_doOrder_68 (by decide) ?_
          show V 72 [some (ZR 0), some (ZI o), some (ZI bits), some (ZI (σ 15 264)), none, none, none, none, none] [ZI 1, ZI 1] 41 σ
          refine zr_icmp_eq (pc := 72) hV 76 dX12_doOrder_72 (by decide) ⟨by decide, by decide⟩ ⟨by decide, by decide⟩ (fun c55 => ?_) (fun c55 => ?_)
          · refine zr_sub (pc := 76) hV [some (ZR 0), some (ZI o), some (ZI bits), none, none, none, none, none, none] (⟨rfl, rfl, rfl, trivial⟩) ?_
            exact J76 (by unfold zq_hid zw_gd; first | exact Or.inl (by omega) | exact Or.inr (by rw [if_pos (by omega)]; omega) | exact Or.inr (by rw [if_neg (by omega), ← pr43.2.2.2]; omega))
          · exfalso; omega
