set_option maxHeartbeats 800000 in
theorem c_X12_reckon2 {σ : zq_S} (sign x y : Int) (q0 : zq_in sign) (q1 : 0 ≤ x ∧ x ≤ 255) (q2 : 0 ≤ y ∧ y ≤ 255) : zq_C zx_w yX12_reckon cX12_reckon 3 (some .int) 0 0 41 41 [ZI sign, ZI x, ZI y] σ (zq_pp σ (fun r => r = zw_rk sign x y)) := by
  refine zq_C_of (by decide) (Nat.le_refl _) (Nat.le_of_ble_eq_true rfl) [some (ZI sign), some (ZI x), some (ZI y)] rfl (fun V hV => ?_)
  show V 0 [some (ZI sign), some (ZI x), some (ZI y)] [] 41 σ
  refine zr_iload_n (pc := 0) hV dX12_reckon_0 rfl rfl ?_
  by_cases c1 : sign = 1
  · refine zr_eqI (V := V) 1 c1 ?_
    refine zr_tableIn (pc := 1) hV 40 dX12_reckon_1 ⟨by decide, by decide⟩ (by decide) (by decide) rfl (by decide) ?_
    show V 40 [some (ZI sign), some (ZI x), some (ZI y)] [] 41 σ
    refine zr_iload_n (pc := 40) hV dX12_reckon_40 rfl rfl ?_
    refine zr_iload_n (pc := 41) hV dX12_reckon_41 rfl rfl ?_
    refine zr_iadd (pc := 42) hV dX12_reckon_42 ?_
    exact zr_iret (pc := 43) hV dX12_reckon_43 rfl rfl ⟨rfl, _, rfl, (by omega), (by unfold zw_rk; repeat' split; all_goals omega)⟩
  by_cases c2 : sign = 2
  · refine zr_eqI (V := V) 2 c2 ?_
    refine zr_tableIn (pc := 1) hV 44 dX12_reckon_1 ⟨by decide, by decide⟩ (by decide) (by decide) rfl (by decide) ?_
    show V 44 [some (ZI sign), some (ZI x), some (ZI y)] [] 41 σ
    refine zr_iload_n (pc := 44) hV dX12_reckon_44 rfl rfl ?_
    refine zr_iload_n (pc := 45) hV dX12_reckon_45 rfl rfl ?_
    refine zr_isub (pc := 46) hV dX12_reckon_46 ?_
    exact zr_iret (pc := 47) hV dX12_reckon_47 rfl rfl ⟨rfl, _, rfl, (by omega), (by unfold zw_rk; repeat' split; all_goals omega)⟩
  by_cases c3 : sign = 3
  · refine zr_eqI (V := V) 3 c3 ?_
    refine zr_tableIn (pc := 1) hV 48 dX12_reckon_1 ⟨by decide, by decide⟩ (by decide) (by decide) rfl (by decide) ?_
    show V 48 [some (ZI sign), some (ZI x), some (ZI y)] [] 41 σ
    refine zr_iload_n (pc := 48) hV dX12_reckon_48 rfl rfl ?_
    refine zr_iload_n (pc := 49) hV dX12_reckon_49 rfl rfl ?_
    refine zr_iand (pc := 50) hV dX12_reckon_50 ?_
    have t4 := zq_and_nnR (x := x) (y := y) (by omega)
    exact zr_iret (pc := 51) hV dX12_reckon_51 rfl rfl ⟨rfl, _, rfl, (by omega), (by unfold zw_rk; repeat' split; all_goals omega)⟩
  by_cases c5 : sign = 4
  · refine zr_eqI (V := V) 4 c5 ?_
    refine zr_tableIn (pc := 1) hV 52 dX12_reckon_1 ⟨by decide, by decide⟩ (by decide) (by decide) rfl (by decide) ?_
    show V 52 [some (ZI sign), some (ZI x), some (ZI y)] [] 41 σ
    refine zr_iload_n (pc := 52) hV dX12_reckon_52 rfl rfl ?_
    refine zr_iload_n (pc := 53) hV dX12_reckon_53 rfl rfl ?_
    refine zr_ior (pc := 54) hV dX12_reckon_54 ?_
    have t6 := zq_or_b (x := x) (y := y) 8 256 (by decide) (by decide) (by omega) (by omega)
    exact zr_iret (pc := 55) hV dX12_reckon_55 rfl rfl ⟨rfl, _, rfl, (by omega), (by unfold zw_rk; repeat' split; all_goals omega)⟩
  by_cases c7 : sign = 5
  · refine zr_eqI (V := V) 5 c7 ?_
    refine zr_tableIn (pc := 1) hV 56 dX12_reckon_1 ⟨by decide, by decide⟩ (by decide) (by decide) rfl (by decide) ?_
    show V 56 [some (ZI sign), some (ZI x), some (ZI y)] [] 41 σ
    refine zr_iload_n (pc := 56) hV dX12_reckon_56 rfl rfl ?_
    refine zr_iload_n (pc := 57) hV dX12_reckon_57 rfl rfl ?_
    refine zr_ixor (pc := 58) hV dX12_reckon_58 ?_
    have t8 := zq_xor_b (x := x) (y := y) 8 256 (by decide) (by decide) (by omega) (by omega)
    exact zr_iret (pc := 59) hV dX12_reckon_59 rfl rfl ⟨rfl, _, rfl, (by omega), (by unfold zw_rk; repeat' split; all_goals omega)⟩
  by_cases c9 : sign = 6
  · refine zr_eqI (V := V) 6 c9 ?_
    refine zr_tableIn (pc := 1) hV 60 dX12_reckon_1 ⟨by decide, by decide⟩ (by decide) (by decide) rfl (by decide) ?_
    show V 60 [some (ZI sign), some (ZI x), some (ZI y)] [] 41 σ
    refine zr_iload_n (pc := 60) hV dX12_reckon_60 rfl rfl ?_
    refine zr_iload_n (pc := 61) hV dX12_reckon_61 rfl rfl ?_
    refine zr_icmp_ge (pc := 62) hV 69 dX12_reckon_62 (by decide) (by omega) (by omega) (fun c10 => ?_) (fun c10 => ?_)
    · show V 69 [some (ZI sign), some (ZI x), some (ZI y)] [] 41 σ
      refine zr_iconst (pc := 69) hV 0 dX12_reckon_69 rfl ?_
      show V 70 [some (ZI sign), some (ZI x), some (ZI y)] [ZI 0] 41 σ
      exact zr_iret (pc := 70) hV dX12_reckon_70 rfl rfl ⟨rfl, _, rfl, ⟨by decide, by decide⟩, (by unfold zw_rk; repeat' split; all_goals omega)⟩
    · show V 65 [some (ZI sign), some (ZI x), some (ZI y)] [] 41 σ
      refine zr_iconst (pc := 65) hV 1 dX12_reckon_65 rfl ?_
      refine zr_goto (pc := 66) hV 70 dX12_reckon_66 (by decide) ?_
      show V 70 [some (ZI sign), some (ZI x), some (ZI y)] [ZI 1] 41 σ
      exact zr_iret (pc := 70) hV dX12_reckon_70 rfl rfl ⟨rfl, _, rfl, ⟨by decide, by decide⟩, (by unfold zw_rk; repeat' split; all_goals omega)⟩
  refine zr_tableOut (pc := 1) hV 71 dX12_reckon_1 (by omega) (by omega) (by decide) ?_
  show V 71 [some (ZI sign), some (ZI x), some (ZI y)] [] 41 σ
  refine zr_iload_n (pc := 71) hV dX12_reckon_71 rfl rfl ?_
  exact zr_iret (pc := 72) hV dX12_reckon_72 rfl rfl ⟨rfl, _, rfl, (by omega), (by unfold zw_rk; repeat' split; all_goals omega)⟩
set_option maxHeartbeats 800000 in
theorem c_X12_addressOf2 {σ : zq_S} (hσ : zx_T σ) (o bits what : Int) (q0 : 0 ≤ o ∧ o ≤ 20) (q1 : zq_in bits) (q2 : 6 ≤ what ∧ what ≤ 9) (q3 : zx_B σ o) : zq_C zx_w yX12_addressOf cX12_addressOf 5 (some .int) 1 25 41 41 [ZR 0, ZI o, ZI bits, ZI what] σ (zq_pp σ (fun r => 0 ≤ r ∧ r ≤ 255 ∧ r = zw_ad (zu_rf σ o bits) (σ 15) what)) := by
  refine zq_C_of (by decide) (Nat.le_refl _) (Nat.le_of_ble_eq_true rfl) [some (ZR 0), some (ZI o), some (ZI bits), some (ZI what), none] rfl (fun V hV => ?_)
  show V 0 [some (ZR 0), some (ZI o), some (ZI bits), some (ZI what), none] [] 41 σ
  refine zr_aload_n (pc := 0) hV dX12_addressOf_0 rfl rfl ?_
  refine zr_iload_n (pc := 1) hV dX12_addressOf_1 rfl rfl ?_
  refine zr_iload_n (pc := 2) hV dX12_addressOf_2 rfl rfl ?_
  refine zr_iload_n (pc := 3) hV dX12_addressOf_3 rfl rfl ?_
  refine zr_bipush (pc := 4) hV 6 dX12_addressOf_4 (by decide) ?_
  refine zr_isub (pc := 6) hV dX12_addressOf_6 ?_
  refine zr_callVp (pc := 7) hV [ZI o, ZI bits, ZI (what - 6)] (st := []) (c_X12_fieldOf2 (σ := σ) hσ o bits (what - 6) (by omega) (by omega) (by omega) q3) dX12_addressOf_7 mX12_289 rfl (by decide) (by decide) (Nat.le_of_ble_eq_true rfl) (Nat.le_refl _) (fun r7 hr7 pr7 => ?_)
  refine zr_istore (pc := 10) hV [some (ZR 0), some (ZI o), some (ZI bits), some (ZI what), some (ZI r7)] dX12_addressOf_10 (by decide) rfl rfl ?_
  refine zr_iload_n (pc := 12) hV dX12_addressOf_12 rfl rfl ?_
  refine zr_bipush (pc := 13) hV 9 dX12_addressOf_13 (by decide) ?_
  refine zr_icmp_ne (pc := 15) hV 23 dX12_addressOf_15 (by decide) (by omega) ⟨by decide, by decide⟩ (fun c1 => ?_) (fun c1 => ?_)
  · show V 23 [some (ZR 0), some (ZI o), some (ZI bits), some (ZI what), some (ZI r7)] [] 41 σ
    refine zr_aload_n (pc := 23) hV dX12_addressOf_23 rfl rfl ?_
    refine zr_getR (pc := 24) hV 24 15 dX12_addressOf_24 fX12_62 rfl rfl rfl (by decide) (zx_g24 hσ) (by omega) ?_
    refine zr_iload (pc := 27) hV dX12_addressOf_27 rfl ?_
    refine zr_iald (pc := 29) hV dX12_addressOf_29 rfl (by decide) rfl (by omega) ?_
    have t2 := zx_stW hσ r7 (by omega)
    show V 30 [some (ZR 0), some (ZI o), some (ZI bits), some (ZI what), some (ZI r7)] [ZI (σ 15 r7)] 41 σ
    exact zr_iret (pc := 30) hV dX12_addressOf_30 rfl rfl ⟨rfl, _, rfl, (by omega), ⟨by omega, by omega, by unfold zw_ad; rw [if_neg (by omega), ← pr7.2.2.2]⟩⟩
  · show V 18 [some (ZR 0), some (ZI o), some (ZI bits), some (ZI what), some (ZI r7)] [] 41 σ
    refine zr_iload (pc := 18) hV dX12_addressOf_18 rfl ?_
    refine zr_goto (pc := 20) hV 30 dX12_addressOf_20 (by decide) ?_
    show V 30 [some (ZR 0), some (ZI o), some (ZI bits), some (ZI what), some (ZI r7)] [ZI r7] 41 σ
    exact zr_iret (pc := 30) hV dX12_addressOf_30 rfl rfl ⟨rfl, _, rfl, (by omega), ⟨by omega, by omega, by unfold zw_ad; rw [if_pos (by omega)]; have z := pr7.2.2.2; rw [show what - 6 = 3 by omega] at z; exact z⟩⟩
set_option maxHeartbeats 800000 in
theorem c_X12_valueOf2 {σ : zq_S} (hσ : zx_T σ) (o bits what number : Int) (q0 : 0 ≤ o ∧ o ≤ 20) (q1 : zq_in bits) (q2 : 0 ≤ what ∧ what ≤ 10) (q3 : zq_in number) (q4 : zx_B σ o) : zq_C zx_w yX12_valueOf cX12_valueOf 5 (some .int) 2 49 41 41 [ZR 0, ZI o, ZI bits, ZI what, ZI number] σ (zq_pp σ (fun r => 0 ≤ r ∧ r ≤ 255 ∧ r = zw_va (zu_rf σ o bits) (σ 15) (zx_p2 (σ 0 0) - 1) what number)) := by
  refine zq_C_of (by decide) (Nat.le_refl _) (Nat.le_of_ble_eq_true rfl) [some (ZR 0), some (ZI o), some (ZI bits), some (ZI what), some (ZI number)] rfl (fun V hV => ?_)
  show V 0 [some (ZR 0), some (ZI o), some (ZI bits), some (ZI what), some (ZI number)] [] 41 σ
  refine zr_iload_n (pc := 0) hV dX12_valueOf_0 rfl rfl ?_
  refine zr_iconst (pc := 1) hV 3 dX12_valueOf_1 rfl ?_
  refine zr_icmp_ge (pc := 2) hV 18 dX12_valueOf_2 (by decide) (by omega) ⟨by decide, by decide⟩ (fun c1 => ?_) (fun c1 => ?_)
  · show V 18 [some (ZR 0), some (ZI o), some (ZI bits), some (ZI what), some (ZI number)] [] 41 σ
    refine zr_iload_n (pc := 18) hV dX12_valueOf_18 rfl rfl ?_
    refine zr_iconst (pc := 19) hV 3 dX12_valueOf_19 rfl ?_
    refine zr_icmp_ne (pc := 20) hV 31 dX12_valueOf_20 (by decide) (by omega) ⟨by decide, by decide⟩ (fun c2 => ?_) (fun c2 => ?_)
    · show V 31 [some (ZR 0), some (ZI o), some (ZI bits), some (ZI what), some (ZI number)] [] 41 σ
      refine zr_iload_n (pc := 31) hV dX12_valueOf_31 rfl rfl ?_
      refine zr_iconst (pc := 32) hV 4 dX12_valueOf_32 rfl ?_
      refine zr_icmp_ne (pc := 33) hV 45 dX12_valueOf_33 (by decide) (by omega) ⟨by decide, by decide⟩ (fun c3 => ?_) (fun c3 => ?_)
      · show V 45 [some (ZR 0), some (ZI o), some (ZI bits), some (ZI what), some (ZI number)] [] 41 σ
        refine zr_iload_n (pc := 45) hV dX12_valueOf_45 rfl rfl ?_
        refine zr_iconst (pc := 46) hV 5 dX12_valueOf_46 rfl ?_
        refine zr_icmp_ne (pc := 47) hV 64 dX12_valueOf_47 (by decide) (by omega) ⟨by decide, by decide⟩ (fun c4 => ?_) (fun c4 => ?_)
        · show V 64 [some (ZR 0), some (ZI o), some (ZI bits), some (ZI what), some (ZI number)] [] 41 σ
          refine zr_iload_n (pc := 64) hV dX12_valueOf_64 rfl rfl ?_
          refine zr_bipush (pc := 65) hV 10 dX12_valueOf_65 (by decide) ?_
          refine zr_icmp_ne (pc := 67) hV 80 dX12_valueOf_67 (by decide) (by omega) ⟨by decide, by decide⟩ (fun c5 => ?_) (fun c5 => ?_)
          · show V 80 [some (ZR 0), some (ZI o), some (ZI bits), some (ZI what), some (ZI number)] [] 41 σ
            refine zr_aload_n (pc := 80) hV dX12_valueOf_80 rfl rfl ?_
            refine zr_getR (pc := 81) hV 24 15 dX12_valueOf_81 fX12_62 rfl rfl rfl (by decide) (zx_g24 hσ) (by omega) ?_
            refine zr_bipush (pc := 84) hV 8 dX12_valueOf_84 (by decide) ?_
            refine zr_aload_n (pc := 86) hV dX12_valueOf_86 rfl rfl ?_
            refine zr_iload_n (pc := 87) hV dX12_valueOf_87 rfl rfl ?_
            refine zr_iload_n (pc := 88) hV dX12_valueOf_88 rfl rfl ?_
            refine zr_iload_n (pc := 89) hV dX12_valueOf_89 rfl rfl ?_
            refine zr_callVp (pc := 90) hV [ZI o, ZI bits, ZI what] (st := [ZI 8, ZR 15]) (c_X12_addressOf2 (σ := σ) hσ o bits what (by omega) (by omega) (by omega) q4) dX12_valueOf_90 mX12_352 rfl (by decide) (by decide) (Nat.le_of_ble_eq_true rfl) (Nat.le_refl _) (fun r90 hr90 pr90 => ?_)
            refine zr_iadd (pc := 93) hV dX12_valueOf_93 ?_
            refine zr_iald (pc := 94) hV dX12_valueOf_94 rfl (by decide) rfl (by omega) ?_
            have t6 := zx_stW hσ (8 + r90) (by omega)
            show V 95 [some (ZR 0), some (ZI o), some (ZI bits), some (ZI what), some (ZI number)] [ZI (σ 15 (8 + r90))] 41 σ
            exact zr_iret (pc := 95) hV dX12_valueOf_95 rfl rfl ⟨rfl, _, rfl, (by omega), ⟨by omega, by omega, by rw [zw_va_m (by omega), ← pr90.2.2]⟩⟩
          · show V 70 [some (ZR 0), some (ZI o), some (ZI bits), some (ZI what), some (ZI number)] [] 41 σ
            refine zr_iload (pc := 70) hV dX12_valueOf_70 rfl ?_
            refine zr_aload_n (pc := 72) hV dX12_valueOf_72 rfl rfl ?_
            refine zr_callVp (pc := 73) hV [] (st := [ZI number]) (c_X12_mask2 (σ := σ) hσ ) dX12_valueOf_73 mX12_346 rfl (by decide) (by decide) (Nat.le_of_ble_eq_true rfl) (Nat.le_refl _) (fun r73 hr73 pr73 => ?_)
            have t7 := zx_g0 hσ
            refine zr_iand (pc := 76) hV dX12_valueOf_76 ?_
            have t8 := zq_and_nnR (x := number) (y := r73) (by omega)
            refine zr_goto (pc := 77) hV 95 dX12_valueOf_77 (by decide) ?_
            show V 95 [some (ZR 0), some (ZI o), some (ZI bits), some (ZI what), some (ZI number)] [ZI (zq_and number r73)] 41 σ
            exact zr_iret (pc := 95) hV dX12_valueOf_95 rfl rfl ⟨rfl, _, rfl, (by omega), ⟨by omega, by omega, by rw [zw_va_10 (by omega), ← pr73.2.2]⟩⟩
        · show V 50 [some (ZR 0), some (ZI o), some (ZI bits), some (ZI what), some (ZI number)] [] 41 σ
          refine zr_aload_n (pc := 50) hV dX12_valueOf_50 rfl rfl ?_
          refine zr_getR (pc := 51) hV 24 15 dX12_valueOf_51 fX12_62 rfl rfl rfl (by decide) (zx_g24 hσ) (by omega) ?_
          refine zr_sipush (pc := 54) hV 265 dX12_valueOf_54 (by decide) ?_
          refine zr_iald (pc := 57) hV dX12_valueOf_57 rfl (by decide) rfl (by omega) ?_
          have t9 := zx_stP hσ
          refine zr_aload_n (pc := 58) hV dX12_valueOf_58 rfl rfl ?_
          refine zr_callVp (pc := 59) hV [] (st := [ZI (σ 15 265)]) (c_X12_mask2 (σ := σ) hσ ) dX12_valueOf_59 mX12_346 rfl (by decide) (by decide) (Nat.le_of_ble_eq_true rfl) (Nat.le_refl _) (fun r59 hr59 pr59 => ?_)
          have t10 := zx_g0 hσ
          refine zr_iand (pc := 62) hV dX12_valueOf_62 ?_
          have t11 := zq_and_nnR (x := σ 15 265) (y := r59) (by omega)
          exact zr_iret (pc := 63) hV dX12_valueOf_63 rfl rfl ⟨rfl, _, rfl, (by omega), ⟨by omega, by omega, by rw [zw_va_5 (by omega), ← pr59.2.2]⟩⟩
      · show V 36 [some (ZR 0), some (ZI o), some (ZI bits), some (ZI what), some (ZI number)] [] 41 σ
        refine zr_aload_n (pc := 36) hV dX12_valueOf_36 rfl rfl ?_
        refine zr_getR (pc := 37) hV 24 15 dX12_valueOf_37 fX12_62 rfl rfl rfl (by decide) (zx_g24 hσ) (by omega) ?_
        refine zr_sipush (pc := 40) hV 264 dX12_valueOf_40 (by decide) ?_
        refine zr_iald (pc := 43) hV dX12_valueOf_43 rfl (by decide) rfl (by omega) ?_
        have t12 := zx_stZ hσ
        exact zr_iret (pc := 44) hV dX12_valueOf_44 rfl rfl ⟨rfl, _, rfl, (by omega), ⟨by omega, by omega, (zw_va_4 (by omega)).symm⟩⟩
    · show V 23 [some (ZR 0), some (ZI o), some (ZI bits), some (ZI what), some (ZI number)] [] 41 σ
      refine zr_aload_n (pc := 23) hV dX12_valueOf_23 rfl rfl ?_
      refine zr_iload_n (pc := 24) hV dX12_valueOf_24 rfl rfl ?_
      refine zr_iload_n (pc := 25) hV dX12_valueOf_25 rfl rfl ?_
      refine zr_iconst (pc := 26) hV 3 dX12_valueOf_26 rfl ?_
      refine zr_callVp (pc := 27) hV [ZI o, ZI bits, ZI 3] (st := []) (c_X12_fieldOf2 (σ := σ) hσ o bits 3 (by omega) (by omega) (by omega) q4) dX12_valueOf_27 mX12_289 rfl (by decide) (by decide) (Nat.le_of_ble_eq_true rfl) (Nat.le_refl _) (fun r27 hr27 pr27 => ?_)
      exact zr_iret (pc := 30) hV dX12_valueOf_30 rfl rfl ⟨rfl, _, rfl, (by omega), ⟨by omega, by omega, by rw [zw_va_3 (by omega), ← pr27.2.2.2]⟩⟩
  · show V 5 [some (ZR 0), some (ZI o), some (ZI bits), some (ZI what), some (ZI number)] [] 41 σ
    refine zr_aload_n (pc := 5) hV dX12_valueOf_5 rfl rfl ?_
    refine zr_getR (pc := 6) hV 24 15 dX12_valueOf_6 fX12_62 rfl rfl rfl (by decide) (zx_g24 hσ) (by omega) ?_
    refine zr_aload_n (pc := 9) hV dX12_valueOf_9 rfl rfl ?_
    refine zr_iload_n (pc := 10) hV dX12_valueOf_10 rfl rfl ?_
    refine zr_iload_n (pc := 11) hV dX12_valueOf_11 rfl rfl ?_
    refine zr_iload_n (pc := 12) hV dX12_valueOf_12 rfl rfl ?_
    refine zr_callVp (pc := 13) hV [ZI o, ZI bits, ZI what] (st := [ZR 15]) (c_X12_fieldOf2 (σ := σ) hσ o bits what (by omega) (by omega) (by omega) q4) dX12_valueOf_13 mX12_289 rfl (by decide) (by decide) (Nat.le_of_ble_eq_true rfl) (Nat.le_refl _) (fun r13 hr13 pr13 => ?_)
    refine zr_iald (pc := 16) hV dX12_valueOf_16 rfl (by decide) rfl (by omega) ?_
    have t13 := zx_stW hσ r13 (by omega)
    exact zr_iret (pc := 17) hV dX12_valueOf_17 rfl rfl ⟨rfl, _, rfl, (by omega), ⟨by omega, by omega, by rw [zw_va_0 (by omega), ← pr13.2.2.2]⟩⟩
