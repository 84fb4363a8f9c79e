set_option maxHeartbeats 800000 in
theorem c_X3_combine_2 {σ : zq_S} (sign : Int) (left : Int) (right : Int) (mask : Int) (q0 : zq_in sign) (q1 : 0 ≤ left ∧ left ≤ 255) (q2 : 0 ≤ right ∧ right ≤ 255) (q3 : 0 ≤ mask ∧ mask ≤ 255) : zq_C zc_w yX3_combine cX3_combine 4 (some .int) 0 0 284 284 [ZI sign, ZI left, ZI right, ZI mask] σ (zq_pp σ (fun r => (0 ≤ r ∧ r ≤ 255) ∧ r = if sign = 43 then zq_and (left + right) mask else if sign = 45 then zq_and (left - right) mask else if sign = 38 then zq_and left right else if sign = 124 then zq_or left right else if sign = 94 then zq_xor left right else if left < right then 1 else 0)) := by
  refine zq_C_of (by decide) (Nat.le_refl _) (Nat.le_of_ble_eq_true rfl) [some (ZI sign), some (ZI left), some (ZI right), some (ZI mask)] rfl (fun V hV => ?_)
  show V 0 [some (ZI sign), some (ZI left), some (ZI right), some (ZI mask)] [] 284 σ
  refine zr_iload_n (pc := 0) hV dX3_combine_0 rfl rfl ?_
  by_cases c1 : sign = 38
  · refine zr_eqI (V := V) 38 c1 ?_
    refine zr_lookup (pc := 1) hV 64 dX3_combine_1 ⟨by decide, by decide⟩ (by decide) rfl (by decide) ?_
    show V 64 [some (ZI sign), some (ZI left), some (ZI right), some (ZI mask)] [] 284 σ
    refine zr_iload_n (pc := 64) hV dX3_combine_64 rfl rfl ?_
    refine zr_iload_n (pc := 65) hV dX3_combine_65 rfl rfl ?_
    refine zr_iand (pc := 66) hV dX3_combine_66 ?_
    have t2 := zq_and_nnR (x := left) (y := right) (by omega)
    exact zr_iret (pc := 67) hV dX3_combine_67 rfl rfl ⟨rfl, _, rfl, (by omega), ⟨by omega, (by repeat (first | rw [if_pos (by omega)] | rw [if_neg (by omega)]))⟩⟩
  by_cases c3 : sign = 43
  · refine zr_eqI (V := V) 43 c3 ?_
    refine zr_lookup (pc := 1) hV 52 dX3_combine_1 ⟨by decide, by decide⟩ (by decide) rfl (by decide) ?_
    show V 52 [some (ZI sign), some (ZI left), some (ZI right), some (ZI mask)] [] 284 σ
    refine zr_iload_n (pc := 52) hV dX3_combine_52 rfl rfl ?_
    refine zr_iload_n (pc := 53) hV dX3_combine_53 rfl rfl ?_
    refine zr_iadd (pc := 54) hV dX3_combine_54 ?_
    refine zr_iload_n (pc := 55) hV dX3_combine_55 rfl rfl ?_
    refine zr_iand (pc := 56) hV dX3_combine_56 ?_
    have t4 := zq_and_nnR (x := left + right) (y := mask) (by omega)
    exact zr_iret (pc := 57) hV dX3_combine_57 rfl rfl ⟨rfl, _, rfl, (by omega), ⟨by omega, (by repeat (first | rw [if_pos (by omega)] | rw [if_neg (by omega)]))⟩⟩
  by_cases c5 : sign = 45
  · refine zr_eqI (V := V) 45 c5 ?_
    refine zr_lookup (pc := 1) hV 58 dX3_combine_1 ⟨by decide, by decide⟩ (by decide) rfl (by decide) ?_
    show V 58 [some (ZI sign), some (ZI left), some (ZI right), some (ZI mask)] [] 284 σ
    refine zr_iload_n (pc := 58) hV dX3_combine_58 rfl rfl ?_
    refine zr_iload_n (pc := 59) hV dX3_combine_59 rfl rfl ?_
    refine zr_isub (pc := 60) hV dX3_combine_60 ?_
    refine zr_iload_n (pc := 61) hV dX3_combine_61 rfl rfl ?_
    refine zr_iand (pc := 62) hV dX3_combine_62 ?_
    have t6 := zq_and_nnR (x := left - right) (y := mask) (by omega)
    exact zr_iret (pc := 63) hV dX3_combine_63 rfl rfl ⟨rfl, _, rfl, (by omega), ⟨by omega, (by repeat (first | rw [if_pos (by omega)] | rw [if_neg (by omega)]))⟩⟩
  by_cases c7 : sign = 94
  · refine zr_eqI (V := V) 94 c7 ?_
    refine zr_lookup (pc := 1) hV 72 dX3_combine_1 ⟨by decide, by decide⟩ (by decide) rfl (by decide) ?_
    show V 72 [some (ZI sign), some (ZI left), some (ZI right), some (ZI mask)] [] 284 σ
    refine zr_iload_n (pc := 72) hV dX3_combine_72 rfl rfl ?_
    refine zr_iload_n (pc := 73) hV dX3_combine_73 rfl rfl ?_
    refine zr_ixor (pc := 74) hV dX3_combine_74 ?_
    have t8 := zq_xor_b (x := left) (y := right) 8 256 (by decide) (by decide) (by omega) (by omega)
    exact zr_iret (pc := 75) hV dX3_combine_75 rfl rfl ⟨rfl, _, rfl, (by omega), ⟨by omega, (by repeat (first | rw [if_pos (by omega)] | rw [if_neg (by omega)]))⟩⟩
  by_cases c9 : sign = 124
  · refine zr_eqI (V := V) 124 c9 ?_
    refine zr_lookup (pc := 1) hV 68 dX3_combine_1 ⟨by decide, by decide⟩ (by decide) rfl (by decide) ?_
    show V 68 [some (ZI sign), some (ZI left), some (ZI right), some (ZI mask)] [] 284 σ
    refine zr_iload_n (pc := 68) hV dX3_combine_68 rfl rfl ?_
    refine zr_iload_n (pc := 69) hV dX3_combine_69 rfl rfl ?_
    refine zr_ior (pc := 70) hV dX3_combine_70 ?_
    have t10 := zq_or_b (x := left) (y := right) 8 256 (by decide) (by decide) (by omega) (by omega)
    exact zr_iret (pc := 71) hV dX3_combine_71 rfl rfl ⟨rfl, _, rfl, (by omega), ⟨by omega, (by repeat (first | rw [if_pos (by omega)] | rw [if_neg (by omega)]))⟩⟩
  refine zr_lookup (pc := 1) (off := 75) hV 76 dX3_combine_1 (by omega) (by decide) (by simp only [Op.lookupswitch.offset]; repeat (split <;> try omega)) (by decide) ?_
  show V 76 [some (ZI sign), some (ZI left), some (ZI right), some (ZI mask)] [] 284 σ
  refine zr_iload_n (pc := 76) hV dX3_combine_76 rfl rfl ?_
  refine zr_iload_n (pc := 77) hV dX3_combine_77 rfl rfl ?_
  refine zr_icmp_ge (pc := 78) hV 85 dX3_combine_78 (by decide) (by omega) (by omega) (fun c11 => ?_) (fun c11 => ?_)
  · show V 85 [some (ZI sign), some (ZI left), some (ZI right), some (ZI mask)] [] 284 σ
    refine zr_iconst (pc := 85) hV 0 dX3_combine_85 rfl ?_
    show V 86 [some (ZI sign), some (ZI left), some (ZI right), some (ZI mask)] [ZI 0] 284 σ
    exact zr_iret (pc := 86) hV dX3_combine_86 rfl rfl ⟨rfl, _, rfl, ⟨by decide, by decide⟩, ⟨by omega, (by repeat (first | rw [if_pos (by omega)] | rw [if_neg (by omega)]))⟩⟩
  · show V 81 [some (ZI sign), some (ZI left), some (ZI right), some (ZI mask)] [] 284 σ
    refine zr_iconst (pc := 81) hV 1 dX3_combine_81 rfl ?_
    refine zr_goto (pc := 82) hV 86 dX3_combine_82 (by decide) ?_
    show V 86 [some (ZI sign), some (ZI left), some (ZI right), some (ZI mask)] [ZI 1] 284 σ
    exact zr_iret (pc := 86) hV dX3_combine_86 rfl rfl ⟨rfl, _, rfl, ⟨by decide, by decide⟩, ⟨by omega, (by repeat (first | rw [if_pos (by omega)] | rw [if_neg (by omega)]))⟩⟩
set_option maxHeartbeats 800000 in
theorem c_X10_wordIn_2 {σ : zq_S} (hσ : zc_T σ) (f : Int) (q0 : 0 ≤ f ∧ f ≤ 3) (q1 : zq_hid (zw_ok (σ 144) (zw_cs σ 141) (σ 141 0))) : zq_C zc_w yX10_wordIn cX10_wordIn 2 (some .int) 0 0 284 284 [ZR 141, ZI f] σ (zq_pp σ (fun r => 0 ≤ r ∧ r ≤ σ 141 0 ∧ r = if f = 3 then σ 144 3 else zw_cs σ 141 (σ 144 f))) := by
  refine zq_C_of (by decide) (Nat.le_refl _) (Nat.le_of_ble_eq_true rfl) [some (ZR 141), some (ZI f)] rfl (fun V hV => ?_)
  have ok := q1
  unfold zq_hid at ok
  have ok2 := ok.2.1
  have ok4 := ok.2.2.2.1
  have ok5 := ok.2.2.2.2.1
  have ok6 := ok.2.2.2.2.2.1.2.1
  show V 0 [some (ZR 141), some (ZI f)] [] 284 σ
  refine zr_iload_n (pc := 0) hV dX10_wordIn_0 rfl rfl ?_
  refine zr_iconst (pc := 1) hV 3 dX10_wordIn_1 rfl ?_
  refine zr_icmp_ne (pc := 2) hV 14 dX10_wordIn_2 (by decide) (by omega) ⟨by decide, by decide⟩ (fun c1 => ?_) (fun c1 => ?_)
  · show V 14 [some (ZR 141), some (ZI f)] [] 284 σ
    refine zr_aload_n (pc := 14) hV dX10_wordIn_14 rfl rfl ?_
    refine zr_getR (pc := 15) hV 1 142 dX10_wordIn_15 fX10_11 rfl rfl (zc_k141 zc_s141) (zc_pos zc_s141 rfl) (zc_g141_1 hσ zc_s141) (by decide) ?_
    refine zr_aload_n (pc := 18) hV dX10_wordIn_18 rfl rfl ?_
    refine zr_getR (pc := 19) hV 5 144 dX10_wordIn_19 fX10_18 rfl rfl (zc_k141 zc_s141) (zc_pos zc_s141 rfl) (zc_g141_5 hσ zc_s141) (by decide) ?_
    refine zr_iload_n (pc := 22) hV dX10_wordIn_22 rfl rfl ?_
    refine zr_iald (pc := 23) hV dX10_wordIn_23 (zc_k144 zc_s144) (zc_pos zc_s144 rfl) rfl (by omega) ?_
    have t2 := zc_ga144 hσ zc_s144 f
    refine zr_bipush (pc := 24) hV 7 dX10_wordIn_24 (by decide) ?_
    refine zr_iand (pc := 26) hV dX10_wordIn_26 ?_
    have t3 := zq_and_mask (σ 144 f) 3 7 8 (by decide) (by decide) (by decide)
    refine zr_iald (pc := 27) hV dX10_wordIn_27 (zc_k142 zc_s142) (zc_pos zc_s142 rfl) rfl (by omega) ?_
    have t4 := zc_ga142 hσ zc_s142 (zq_and (σ 144 f) 7)
    show V 28 [some (ZR 141), some (ZI f)] [ZI (σ 142 (zq_and (σ 144 f) 7))] 284 σ
    exact zr_iret (pc := 28) hV dX10_wordIn_28 rfl rfl ⟨rfl, _, rfl, (by omega), (by have f1 := ok.1 f (by omega) (by omega); have ee : zq_and (σ 144 f) 7 = σ 144 f := (by omega); have z := ok.2.2.1 (σ 144 f) f1.1 (by omega); rw [zw_cs_r (a := 142) rfl (by omega)] at z; rw [ee]; exact ⟨z.1, z.2, by rw [if_neg (by omega), zw_cs_r (a := 142) rfl (by omega)]⟩)⟩
  · show V 5 [some (ZR 141), some (ZI f)] [] 284 σ
    refine zr_aload_n (pc := 5) hV dX10_wordIn_5 rfl rfl ?_
    refine zr_getR (pc := 6) hV 5 144 dX10_wordIn_6 fX10_18 rfl rfl (zc_k141 zc_s141) (zc_pos zc_s141 rfl) (zc_g141_5 hσ zc_s141) (by decide) ?_
    refine zr_iconst (pc := 9) hV 3 dX10_wordIn_9 rfl ?_
    refine zr_iald (pc := 10) hV dX10_wordIn_10 (zc_k144 zc_s144) (zc_pos zc_s144 rfl) rfl (by omega) ?_
    have t5 := zc_ga144 hσ zc_s144 3
    refine zr_goto (pc := 11) hV 28 dX10_wordIn_11 (by decide) ?_
    show V 28 [some (ZR 141), some (ZI f)] [ZI (σ 144 3)] 284 σ
    exact zr_iret (pc := 28) hV dX10_wordIn_28 rfl rfl ⟨rfl, _, rfl, (by omega), ⟨by omega, by omega, by rw [if_pos (by omega)]⟩⟩
set_option maxHeartbeats 800000 in
theorem c_X10_wordOf_2 {σ : zq_S} (hσ : zc_T σ) (operand : Int) (q0 : 0 ≤ operand ∧ operand ≤ 271) (q1 : zc_op operand) (q2 : zq_hid (zw_ok (σ 144) (zw_cs σ 141) (σ 141 0))) : zq_C zc_w yX10_wordOf cX10_wordOf 2 (some .int) 1 21 284 284 [ZR 141, ZI operand] σ (zq_pp σ (fun r => 0 ≤ r ∧ r ≤ σ 141 0 ∧ r = zw_va (σ 144) (zw_cs σ 141) (σ 141 0) (zt_rc operand) (zt_ru operand))) := by
  refine zq_C_of (by decide) (Nat.le_refl _) (Nat.le_of_ble_eq_true rfl) [some (ZR 141), some (ZI operand)] rfl (fun V hV => ?_)
  have uo : operand ≤ 9 ∨ 16 ≤ operand := q1
  have ok := q2
  unfold zq_hid at ok
  have ok2 := ok.2.1
  have ok4 := ok.2.2.2.1
  have ok5 := ok.2.2.2.2.1
  have ok6 := ok.2.2.2.2.2.1.2.1
  show V 0 [some (ZR 141), some (ZI operand)] [] 284 σ
  refine zr_iload_n (pc := 0) hV dX10_wordOf_0 rfl rfl ?_
  refine zr_bipush (pc := 1) hV 16 dX10_wordOf_1 (by decide) ?_
  refine zr_icmp_lt (pc := 3) hV 16 dX10_wordOf_3 (by decide) (by omega) ⟨by decide, by decide⟩ (fun c1 => ?_) (fun c1 => ?_)
  · show V 16 [some (ZR 141), some (ZI operand)] [] 284 σ
    refine zr_iload_n (pc := 16) hV dX10_wordOf_16 rfl rfl ?_
    refine zr_bipush (pc := 17) hV 6 dX10_wordOf_17 (by decide) ?_
    refine zr_icmp_lt (pc := 19) hV 40 dX10_wordOf_19 (by decide) (by omega) ⟨by decide, by decide⟩ (fun c2 => ?_) (fun c2 => ?_)
    · show V 40 [some (ZR 141), some (ZI operand)] [] 284 σ
      refine zr_iload_n (pc := 40) hV dX10_wordOf_40 rfl rfl ?_
      by_cases c3 : operand = 4
      · refine zr_eqI (V := V) 4 c3 ?_
        refine zr_lookup (pc := 41) hV 68 dX10_wordOf_41 ⟨by decide, by decide⟩ (by decide) rfl (by decide) ?_
        show V 68 [some (ZR 141), some (ZI operand)] [] 284 σ
        refine zr_aload_n (pc := 68) hV dX10_wordOf_68 rfl rfl ?_
        refine zr_getI (pc := 69) hV 3 dX10_wordOf_69 fX10_35 rfl rfl (zc_k141 zc_s141) (zc_pos zc_s141 rfl) ?_
        have t4 := zc_g141_3 hσ zc_s141
        exact zr_iret (pc := 72) hV dX10_wordOf_72 rfl rfl ⟨rfl, _, rfl, (by omega), (by have e : σ 141 3 = zw_va (σ 144) (zw_cs σ 141) (σ 141 0) (zt_rc operand) (zt_ru operand) := (by rw [(zt_rc_b operand).2 (by omega), zw_va_4 (by omega), zw_cs_z]); have vb := zw_va_b (n := zt_ru operand) ok (w := zt_rc operand) (zw_rcb (by omega) uo); rw [← e] at vb; exact ⟨vb.1, vb.2, e⟩)⟩
      by_cases c5 : operand = 5
      · refine zr_eqI (V := V) 5 c5 ?_
        refine zr_lookup (pc := 41) hV 73 dX10_wordOf_41 ⟨by decide, by decide⟩ (by decide) rfl (by decide) ?_
        show V 73 [some (ZR 141), some (ZI operand)] [] 284 σ
        refine zr_aload_n (pc := 73) hV dX10_wordOf_73 rfl rfl ?_
        refine zr_getI (pc := 74) hV 4 dX10_wordOf_74 fX10_39 rfl rfl (zc_k141 zc_s141) (zc_pos zc_s141 rfl) ?_
        have t6 := zc_g141_4 hσ zc_s141
        refine zr_aload_n (pc := 77) hV dX10_wordOf_77 rfl rfl ?_
        refine zr_getI (pc := 78) hV 0 dX10_wordOf_78 fX10_48 rfl rfl (zc_k141 zc_s141) (zc_pos zc_s141 rfl) ?_
        have t7 := zc_g141_0 hσ zc_s141
        refine zr_iand (pc := 81) hV dX10_wordOf_81 ?_
        have t8 := zq_and_nnR (x := σ 141 4) (y := σ 141 0) (by omega)
        exact zr_iret (pc := 82) hV dX10_wordOf_82 rfl rfl ⟨rfl, _, rfl, (by omega), (by have e : zq_and (σ 141 4) (σ 141 0) = zw_va (σ 144) (zw_cs σ 141) (σ 141 0) (zt_rc operand) (zt_ru operand) := (by rw [(zt_rc_b operand).2 (by omega), zw_va_5 (by omega), zw_cs_p]); have vb := zw_va_b (n := zt_ru operand) ok (w := zt_rc operand) (zw_rcb (by omega) uo); rw [← e] at vb; exact ⟨vb.1, vb.2, e⟩)⟩
      refine zr_lookup (pc := 41) (off := 42) hV 83 dX10_wordOf_41 (by omega) (by decide) (by simp only [Op.lookupswitch.offset]; repeat (split <;> try omega)) (by decide) ?_
      show V 83 [some (ZR 141), some (ZI operand)] [] 284 σ
      refine zr_aload_n (pc := 83) hV dX10_wordOf_83 rfl rfl ?_
      refine zr_iload_n (pc := 84) hV dX10_wordOf_84 rfl rfl ?_
      have t9 := zc_g141_0 hσ zc_s141
      refine zr_callVp (pc := 85) hV [ZI operand] (st := []) (c_X10_wordIn_2 (σ := σ) hσ operand (by omega) q2) dX10_wordOf_85 mX10_51 (zc_k141 zc_s141) (zc_pos zc_s141 rfl) (by decide) (Nat.le_of_ble_eq_true rfl) (Nat.le_refl _) (fun r85 hr85 pr85 => ?_)
      have t10 := zc_g141_0 hσ zc_s141
      have t11 := zc_ga144 hσ zc_s144 3
      exact zr_iret (pc := 88) hV dX10_wordOf_88 rfl rfl ⟨rfl, _, rfl, (by omega), (by have e : r85 = zw_va (σ 144) (zw_cs σ 141) (σ 141 0) (zt_rc operand) (zt_ru operand) := (by rw [(zt_rc_b operand).2 (by omega)]; have z := pr85.2.2; by_cases c : operand = 3; (rw [zw_va_3 c]; rw [if_pos c] at z; exact z); (rw [zw_va_0 (by omega)]; rw [if_neg c] at z; exact z)); have vb := zw_va_b (n := zt_ru operand) ok (w := zt_rc operand) (zw_rcb (by omega) uo); rw [← e] at vb; exact ⟨vb.1, vb.2, e⟩)⟩
    · show V 22 [some (ZR 141), some (ZI operand)] [] 284 σ
      refine zr_aload_n (pc := 22) hV dX10_wordOf_22 rfl rfl ?_
      refine zr_getR (pc := 23) hV 2 143 dX10_wordOf_23 fX10_15 rfl rfl (zc_k141 zc_s141) (zc_pos zc_s141 rfl) (zc_g141_2 hσ zc_s141) (by decide) ?_
      refine zr_aload_n (pc := 26) hV dX10_wordOf_26 rfl rfl ?_
      refine zr_iload_n (pc := 27) hV dX10_wordOf_27 rfl rfl ?_
      refine zr_bipush (pc := 28) hV 6 dX10_wordOf_28 (by decide) ?_
      refine zr_isub (pc := 30) hV dX10_wordOf_30 ?_
      have t12 := zc_g141_0 hσ zc_s141
      refine zr_callVp (pc := 31) hV [ZI (operand - 6)] (st := [ZR 143]) (c_X10_wordIn_2 (σ := σ) hσ (operand - 6) (by omega) q2) dX10_wordOf_31 mX10_51 (zc_k141 zc_s141) (zc_pos zc_s141 rfl) (by decide) (Nat.le_of_ble_eq_true rfl) (Nat.le_refl _) (fun r31 hr31 pr31 => ?_)
      have t13 := zc_g141_0 hσ zc_s141
      have t14 := zc_ga144 hσ zc_s144 3
      refine zr_sipush (pc := 34) hV 255 dX10_wordOf_34 (by decide) ?_
      refine zr_iand (pc := 37) hV dX10_wordOf_37 ?_
      have t15 := zq_and_mask r31 8 255 256 (by decide) (by decide) (by decide)
      refine zr_iald (pc := 38) hV dX10_wordOf_38 (zc_k143 zc_s143) (zc_pos zc_s143 rfl) rfl (by omega) ?_
      have t16 := zc_ga143 hσ zc_s143 (zq_and r31 255)
      exact zr_iret (pc := 39) hV dX10_wordOf_39 rfl rfl ⟨rfl, _, rfl, (by omega), (by have e : σ 143 (zq_and r31 255) = zw_va (σ 144) (zw_cs σ 141) (σ 141 0) (zt_rc operand) (zt_ru operand) := (by have z := pr31.2.2.trans zw_adw; rw [(zt_rc_b operand).2 (by omega), zw_va_m (by omega), ← z, zw_cs_m (a := 143) rfl (by omega) (by omega), show 8 + r31 - 8 = r31 by omega, show zq_and r31 255 = r31 by omega]); have vb := zw_va_b (n := zt_ru operand) ok (w := zt_rc operand) (zw_rcb (by omega) uo); rw [← e] at vb; exact ⟨vb.1, vb.2, e⟩)⟩
  · show V 6 [some (ZR 141), some (ZI operand)] [] 284 σ
    refine zr_iload_n (pc := 6) hV dX10_wordOf_6 rfl rfl ?_
    refine zr_bipush (pc := 7) hV 16 dX10_wordOf_7 (by decide) ?_
    refine zr_isub (pc := 9) hV dX10_wordOf_9 ?_
    refine zr_aload_n (pc := 10) hV dX10_wordOf_10 rfl rfl ?_
    refine zr_getI (pc := 11) hV 0 dX10_wordOf_11 fX10_48 rfl rfl (zc_k141 zc_s141) (zc_pos zc_s141 rfl) ?_
    have t17 := zc_g141_0 hσ zc_s141
    refine zr_iand (pc := 14) hV dX10_wordOf_14 ?_
    have t18 := zq_and_nnR (x := operand - 16) (y := σ 141 0) (by omega)
    exact zr_iret (pc := 15) hV dX10_wordOf_15 rfl rfl ⟨rfl, _, rfl, (by omega), (by have e : zq_and (operand - 16) (σ 141 0) = zw_va (σ 144) (zw_cs σ 141) (σ 141 0) (zt_rc operand) (zt_ru operand) := (by rw [(zt_rc_b operand).1 (by omega), zw_va_10 rfl]; unfold zt_ru; rw [if_pos (by omega)]); have vb := zw_va_b (n := zt_ru operand) ok (w := zt_rc operand) (zw_rcb (by omega) uo); rw [← e] at vb; exact ⟨vb.1, vb.2, e⟩)⟩
set_option maxHeartbeats 800000 in
theorem c_X10_noteChange_2 {σ : zq_S} (hσ : zc_T σ) (where_ : Int) (was : Int) (q0 : zq_in where_) (q1 : zq_in was) (q2 : σ 141 6 ≤ 2) : zq_C zc_w yX10_noteChange cX10_noteChange 3 (none) 0 0 284 284 [ZR 141, ZI where_, ZI was] σ (zq_pv (fun τ => zc_T τ ∧ zc_Fr [(141, 6), (145, -1), (146, -1)] σ τ ∧ (True) ∧ zq_hid (τ 141 6 = σ 141 6 + 1 ∧ (∀ i, τ 145 i = if i = σ 141 6 then where_ else σ 145 i) ∧ (∀ i, τ 146 i = if i = σ 141 6 then was else σ 146 i)))) := by
  refine zq_C_of (by decide) (Nat.le_refl _) (Nat.le_of_ble_eq_true rfl) [some (ZR 141), some (ZI where_), some (ZI was)] rfl (fun V hV => ?_)
  have hFσ := zc_Fr_rf [(141, 6), (145, -1), (146, -1)] σ
  show V 0 [some (ZR 141), some (ZI where_), some (ZI was)] [] 284 σ
  refine zr_aload_n (pc := 0) hV dX10_noteChange_0 rfl rfl ?_
  refine zr_getI (pc := 1) hV 6 dX10_noteChange_1 fX10_59 rfl rfl (zc_k141 zc_s141) (zc_pos zc_s141 rfl) ?_
  have t1 := zc_g141_6 hσ zc_s141
  refine zr_iconst (pc := 4) hV 3 dX10_noteChange_4 rfl ?_
  refine zr_icmp_ge (pc := 5) hV 38 dX10_noteChange_5 (by decide) (by omega) ⟨by decide, by decide⟩ (fun c2 => ?_) (fun c2 => ?_)
  · show V 38 [some (ZR 141), some (ZI where_), some (ZI was)] [] 284 σ
    have t3 := zc_g141_6 hσ zc_s141
    exact zr_vret (pc := 38) hV dX10_noteChange_38 rfl rfl ⟨rfl, hσ, hFσ, trivial, (show σ 141 6 = σ 141 6 + 1 ∧ (∀ i, σ 145 i = if i = σ 141 6 then where_ else σ 145 i) ∧ (∀ i, σ 146 i = if i = σ 141 6 then was else σ 146 i) from (by exfalso; omega))⟩
  · show V 8 [some (ZR 141), some (ZI where_), some (ZI was)] [] 284 σ
    refine zr_aload_n (pc := 8) hV dX10_noteChange_8 rfl rfl ?_
    refine zr_getR (pc := 9) hV 7 145 dX10_noteChange_9 fX10_23 rfl rfl (zc_k141 zc_s141) (zc_pos zc_s141 rfl) (zc_g141_7 hσ zc_s141) (by decide) ?_
    refine zr_aload_n (pc := 12) hV dX10_noteChange_12 rfl rfl ?_
    refine zr_getI (pc := 13) hV 6 dX10_noteChange_13 fX10_59 rfl rfl (zc_k141 zc_s141) (zc_pos zc_s141 rfl) ?_
    have t4 := zc_g141_6 hσ zc_s141
    refine zr_iload_n (pc := 16) hV dX10_noteChange_16 rfl rfl ?_
    refine zr_iast (pc := 17) hV dX10_noteChange_17 (zc_k145 zc_s145) (zc_pos zc_s145 rfl) rfl (by omega) (fun σ17 eσ17 => ?_)
    have hσ17 : zc_T σ17 := zc_ua145 eσ17 hσ zc_s145 (by omega)
    have hFσ17 := zc_Fa eσ17 zc_s145 rfl hFσ
    refine zr_aload_n (pc := 18) hV dX10_noteChange_18 rfl rfl ?_
    refine zr_getR (pc := 19) hV 8 146 dX10_noteChange_19 fX10_26 rfl rfl (zc_k141 zc_s141) (zc_pos zc_s141 rfl) (zc_g141_8 hσ17 zc_s141) (by decide) ?_
    refine zr_aload_n (pc := 22) hV dX10_noteChange_22 rfl rfl ?_
    refine zr_getI (pc := 23) hV 6 dX10_noteChange_23 fX10_59 rfl rfl (zc_k141 zc_s141) (zc_pos zc_s141 rfl) ?_
    have t5 := zc_g141_6 hσ17 zc_s141
    have t6 : σ17 141 6 = σ 141 6 := by rw [eσ17]; exact zq_up_ne (zc_dk zc_s141 zc_s145 rfl)
    refine zr_iload_n (pc := 26) hV dX10_noteChange_26 rfl rfl ?_
    refine zr_iast (pc := 27) hV dX10_noteChange_27 (zc_k146 zc_s146) (zc_pos zc_s146 rfl) rfl (by omega) (fun σ27 eσ27 => ?_)
    have hσ27 : zc_T σ27 := zc_ua146 eσ27 hσ17 zc_s146 (by omega)
    have hFσ27 := zc_Fa eσ27 zc_s146 rfl hFσ17
    refine zr_aload_n (pc := 28) hV dX10_noteChange_28 rfl rfl ?_
    refine zr_dup (pc := 29) hV dX10_noteChange_29 (fun _ => rfl) ?_
    refine zr_getI (pc := 30) hV 6 dX10_noteChange_30 fX10_59 rfl rfl (zc_k141 zc_s141) (zc_pos zc_s141 rfl) ?_
    have t7 := zc_g141_6 hσ27 zc_s141
    have t8 : σ27 141 6 = σ17 141 6 := by rw [eσ27]; exact zq_up_ne (zc_dk zc_s141 zc_s146 rfl)
    have t9 : σ17 141 6 = σ 141 6 := by rw [eσ17]; exact zq_up_ne (zc_dk zc_s141 zc_s145 rfl)
    refine zr_iconst (pc := 33) hV 1 dX10_noteChange_33 rfl ?_
    refine zr_iadd (pc := 34) hV dX10_noteChange_34 ?_
    refine zr_putI (pc := 35) hV 6 dX10_noteChange_35 fX10_59 rfl rfl rfl (zc_k141 zc_s141) (zc_pos zc_s141 rfl) (fun σ35 eσ35 => ?_)
    have hσ35 : zc_T σ35 := zc_u141_6 eσ35 hσ27 zc_s141 (by omega)
    have hFσ35 := zc_Fw eσ35 zc_s141 rfl hFσ27
    show V 38 [some (ZR 141), some (ZI where_), some (ZI was)] [] 284 σ35
    have t10 := zc_g141_6 hσ35 zc_s141
    have t11 : σ35 141 6 = (σ27 141 6) + 1 := by rw [eσ35]; exact zq_up_same _ _ _ _
    exact zr_vret (pc := 38) hV dX10_noteChange_38 rfl rfl ⟨rfl, hσ35, hFσ35, trivial, (show σ35 141 6 = σ 141 6 + 1 ∧ (∀ i, σ35 145 i = if i = σ 141 6 then where_ else σ 145 i) ∧ (∀ i, σ35 146 i = if i = σ 141 6 then was else σ 146 i) from ⟨by rw [eσ35, zq_up_same, eσ27, zq_up_ne (by omega), eσ17, zq_up_ne (by omega)], fun i => if hc : i = σ 141 6 then (by rw [if_pos hc, hc, eσ35, zq_up_ne (by omega), eσ27, zq_up_ne (by omega), eσ17, zq_up_same]) else (by rw [if_neg hc, eσ35, zq_up_ne (by omega), eσ27, zq_up_ne (by omega), eσ17, zq_up_ne (by omega)]), fun i => (by have k17 := show σ17 141 6 = σ 141 6 from (by rw [eσ17, zq_up_ne (by omega)]); by_cases hc : i = σ 141 6; (rw [if_pos hc, hc, eσ35, zq_up_ne (by omega), eσ27, k17, zq_up_same]); (rw [if_neg hc, eσ35, zq_up_ne (by omega), eσ27, k17, zq_up_ne (by omega), eσ17, zq_up_ne (by omega)]))⟩)⟩
set_option maxHeartbeats 800000 in
theorem c_X10_become_2 {σ : zq_S} (hσ : zc_T σ) (target : Int) (word : Int) (q0 : 0 ≤ target ∧ target ≤ 9) (q1 : zq_in word) (q2 : target ≠ 3) (q3 : zq_hid (zw_ok (σ 144) (zw_cs σ 141) (σ 141 0))) (q4 : σ 141 6 ≤ 2) (q5 : 0 ≤ word ∧ word ≤ σ 141 0) : zq_C zc_w yX10_become cX10_become 4 (none) 1 22 284 284 [ZR 141, ZI target, ZI word] σ (zq_pv (fun τ => zc_T τ ∧ zc_Fr [(141, 3), (141, 4), (141, 6), (142, -1), (143, -1), (145, -1), (146, -1)] σ τ ∧ (True) ∧ zq_hid (zw_cs τ 141 = zw_up (zw_cs σ 141) (zw_ix (σ 144) (zw_cs σ 141) target) (zw_nv target word) ∧ zw_lg σ τ 141 ∧ σ 141 6 ≤ τ 141 6 ∧ τ 141 6 ≤ σ 141 6 + 1))) := by
  refine zq_C_of (by decide) (Nat.le_refl _) (Nat.le_of_ble_eq_true rfl) [some (ZR 141), some (ZI target), some (ZI word), none] rfl (fun V hV => ?_)
  have hFσ := zc_Fr_rf [(141, 3), (141, 4), (141, 6), (142, -1), (143, -1), (145, -1), (146, -1)] σ
  have ok := q3
  unfold zq_hid at ok
  have ok2 := ok.2.1
  have ok4 := ok.2.2.2.1
  have ok5 := ok.2.2.2.2.1
  have ok6 := ok.2.2.2.2.2.1.2.1
  show V 0 [some (ZR 141), some (ZI target), some (ZI word), none] [] 284 σ
  refine zr_iload_n (pc := 0) hV dX10_become_0 rfl rfl ?_
  refine zr_iconst (pc := 1) hV 4 dX10_become_1 rfl ?_
  refine zr_icmp_ne (pc := 2) hV 21 dX10_become_2 (by decide) (by omega) ⟨by decide, by decide⟩ (fun c1 => ?_) (fun c1 => ?_)
  · show V 21 [some (ZR 141), some (ZI target), some (ZI word), none] [] 284 σ
    refine zr_iload_n (pc := 21) hV dX10_become_21 rfl rfl ?_
    refine zr_iconst (pc := 22) hV 5 dX10_become_22 rfl ?_
    refine zr_icmp_ne (pc := 23) hV 37 dX10_become_23 (by decide) (by omega) ⟨by decide, by decide⟩ (fun c2 => ?_) (fun c2 => ?_)
    · show V 37 [some (ZR 141), some (ZI target), some (ZI word), none] [] 284 σ
      refine zr_iload_n (pc := 37) hV dX10_become_37 rfl rfl ?_
      refine zr_bipush (pc := 38) hV 6 dX10_become_38 (by decide) ?_
      refine zr_icmp_lt (pc := 40) hV 80 dX10_become_40 (by decide) (by omega) ⟨by decide, by decide⟩ (fun c3 => ?_) (fun c3 => ?_)
      · show V 80 [some (ZR 141), some (ZI target), some (ZI word), none] [] 284 σ
        refine zr_aload_n (pc := 80) hV dX10_become_80 rfl rfl ?_
        refine zr_getR (pc := 81) hV 5 144 dX10_become_81 fX10_18 rfl rfl (zc_k141 zc_s141) (zc_pos zc_s141 rfl) (zc_g141_5 hσ zc_s141) (by decide) ?_
        refine zr_iload_n (pc := 84) hV dX10_become_84 rfl rfl ?_
        refine zr_iald (pc := 85) hV dX10_become_85 (zc_k144 zc_s144) (zc_pos zc_s144 rfl) rfl (by omega) ?_
        have t4 := zc_ga144 hσ zc_s144 target
        refine zr_bipush (pc := 86) hV 7 dX10_become_86 (by decide) ?_
        refine zr_iand (pc := 88) hV dX10_become_88 ?_
        have t5 := zq_and_mask (σ 144 target) 3 7 8 (by decide) (by decide) (by decide)
        refine zr_istore_n (pc := 89) hV [some (ZR 141), some (ZI target), some (ZI word), some (ZI (zq_and (σ 144 target) 7))] dX10_become_89 rfl (by decide) rfl rfl ?_
        refine zr_aload_n (pc := 90) hV dX10_become_90 rfl rfl ?_
        refine zr_iload_n (pc := 91) hV dX10_become_91 rfl rfl ?_
        refine zr_aload_n (pc := 92) hV dX10_become_92 rfl rfl ?_
        refine zr_getR (pc := 93) hV 1 142 dX10_become_93 fX10_11 rfl rfl (zc_k141 zc_s141) (zc_pos zc_s141 rfl) (zc_g141_1 hσ zc_s141) (by decide) ?_
        refine zr_iload_n (pc := 96) hV dX10_become_96 rfl rfl ?_
        refine zr_iald (pc := 97) hV dX10_become_97 (zc_k142 zc_s142) (zc_pos zc_s142 rfl) rfl (by omega) ?_
        have t6 := zc_ga142 hσ zc_s142 (zq_and (σ 144 target) 7)
        have t7 := zc_g141_6 hσ zc_s141
        refine zr_callVv (pc := 98) hV [ZI (zq_and (σ 144 target) 7), ZI (σ 142 (zq_and (σ 144 target) 7))] (st := []) (c_X10_noteChange_2 (σ := σ) hσ (zq_and (σ 144 target) 7) (σ 142 (zq_and (σ 144 target) 7)) (by omega) (by omega) (by omega)) dX10_become_98 mX10_55 (zc_k141 zc_s141) (zc_pos zc_s141 rfl) (by decide) (Nat.le_of_ble_eq_true rfl) (Nat.le_refl _) (fun σ98 pσ98 => ?_)
        obtain ⟨hσ98, hfσ98, pσ98, wσ98⟩ := pσ98
        have hFσ98 := zc_Fc hfσ98 rfl hFσ
        have t8 := zc_g141_6 hσ zc_s141
        refine zr_aload_n (pc := 101) hV dX10_become_101 rfl rfl ?_
        refine zr_getR (pc := 102) hV 1 142 dX10_become_102 fX10_11 rfl rfl (zc_k141 zc_s141) (zc_pos zc_s141 rfl) (zc_g141_1 hσ98 zc_s141) (by decide) ?_
        refine zr_iload_n (pc := 105) hV dX10_become_105 rfl rfl ?_
        refine zr_iload_n (pc := 106) hV dX10_become_106 rfl rfl ?_
        refine zr_iast (pc := 107) hV dX10_become_107 (zc_k142 zc_s142) (zc_pos zc_s142 rfl) rfl (by omega) (fun σ107 eσ107 => ?_)
        have hσ107 : zc_T σ107 := zc_ua142 eσ107 hσ98 zc_s142 (by omega)
        have hFσ107 := zc_Fa eσ107 zc_s142 rfl hFσ98
        show V 108 [some (ZR 141), some (ZI target), some (ZI word), some (ZI (zq_and (σ 144 target) 7))] [] 284 σ107
        have t9 := zc_g141_6 hσ107 zc_s141
        have t10 : σ107 141 6 = σ98 141 6 := by rw [eσ107]; exact zq_up_ne (zc_dk zc_s141 zc_s142 rfl)
        exact zr_vret (pc := 108) hV dX10_become_108 rfl rfl ⟨rfl, hσ107, hFσ107, trivial, (show zw_cs σ107 141 = zw_up (zw_cs σ 141) (zw_ix (σ 144) (zw_cs σ 141) target) (zw_nv target word) ∧ zw_lg σ σ107 141 ∧ σ 141 6 ≤ σ107 141 6 ∧ σ107 141 6 ≤ σ 141 6 + 1 from (by have w := wσ98; unfold zq_hid at w; have hc0 : zw_cs σ98 141 = zw_cs σ 141 := zw_cs_c (fun i => hfσ98 142 i (zc_out_ar zc_s142 rfl)) (fun i => hfσ98 143 i (zc_out_ar zc_s143 rfl)) (hfσ98 141 3 (zc_out_at zc_s141 rfl)) (hfσ98 141 4 (zc_out_at zc_s141 rfl)); have hcs := zw_cs_ur (b := 141) eσ107 rfl (by omega); rw [hc0] at hcs; have ix : zw_ix (σ 144) (zw_cs σ 141) target = zq_and (σ 144 target) 7 := (by have f1 := ok.1 target (by omega) (by omega); unfold zw_ix; rw [if_pos (by omega)]; omega); have e6 : σ107 141 6 = σ 141 6 + 1 := (by rw [eσ107, zq_up_ne (by omega)]; exact w.1); refine ⟨?_, (zw_lg_p (b := 141) (x := zq_and (σ 144 target) 7) (v := word) (by omega) (by rw [eσ107, zq_up_ne (by omega)]; exact w.1) (fun i => by rw [eσ107, zq_up_ne (by omega)]; exact w.2.1 i) (fun i => by rw [eσ107, zq_up_ne (by omega)]; rw [zw_cs_r (a := 142) rfl (by omega)]; exact w.2.2 i) hcs (by omega)), by omega, by omega⟩; rw [hcs, ix]; unfold zw_nv; rw [if_neg (by omega), if_neg (by omega)]))⟩
      · show V 43 [some (ZR 141), some (ZI target), some (ZI word), none] [] 284 σ
        refine zr_aload_n (pc := 43) hV dX10_become_43 rfl rfl ?_
        refine zr_iload_n (pc := 44) hV dX10_become_44 rfl rfl ?_
        refine zr_bipush (pc := 45) hV 6 dX10_become_45 (by decide) ?_
        refine zr_isub (pc := 47) hV dX10_become_47 ?_
        have t11 := zc_g141_0 hσ zc_s141
        refine zr_callVp (pc := 48) hV [ZI (target - 6)] (st := []) (c_X10_wordIn_2 (σ := σ) hσ (target - 6) (by omega) q3) dX10_become_48 mX10_51 (zc_k141 zc_s141) (zc_pos zc_s141 rfl) (by decide) (Nat.le_of_ble_eq_true rfl) (Nat.le_refl _) (fun r48 hr48 pr48 => ?_)
        have t12 := zc_g141_0 hσ zc_s141
        have t13 := zc_ga144 hσ zc_s144 3
        refine zr_sipush (pc := 51) hV 255 dX10_become_51 (by decide) ?_
        refine zr_iand (pc := 54) hV dX10_become_54 ?_
        have t14 := zq_and_mask r48 8 255 256 (by decide) (by decide) (by decide)
        refine zr_istore_n (pc := 55) hV [some (ZR 141), some (ZI target), some (ZI word), some (ZI (zq_and r48 255))] dX10_become_55 rfl (by decide) rfl rfl ?_
        refine zr_aload_n (pc := 56) hV dX10_become_56 rfl rfl ?_
        refine zr_bipush (pc := 57) hV 8 dX10_become_57 (by decide) ?_
        refine zr_iload_n (pc := 59) hV dX10_become_59 rfl rfl ?_
        refine zr_iadd (pc := 60) hV dX10_become_60 ?_
        refine zr_aload_n (pc := 61) hV dX10_become_61 rfl rfl ?_
        refine zr_getR (pc := 62) hV 2 143 dX10_become_62 fX10_15 rfl rfl (zc_k141 zc_s141) (zc_pos zc_s141 rfl) (zc_g141_2 hσ zc_s141) (by decide) ?_
        refine zr_iload_n (pc := 65) hV dX10_become_65 rfl rfl ?_
        refine zr_iald (pc := 66) hV dX10_become_66 (zc_k143 zc_s143) (zc_pos zc_s143 rfl) rfl (by omega) ?_
        have t15 := zc_ga143 hσ zc_s143 (zq_and r48 255)
        have t16 := zc_g141_6 hσ zc_s141
        refine zr_callVv (pc := 67) hV [ZI (8 + (zq_and r48 255)), ZI (σ 143 (zq_and r48 255))] (st := []) (c_X10_noteChange_2 (σ := σ) hσ (8 + (zq_and r48 255)) (σ 143 (zq_and r48 255)) (by omega) (by omega) (by omega)) dX10_become_67 mX10_55 (zc_k141 zc_s141) (zc_pos zc_s141 rfl) (by decide) (Nat.le_of_ble_eq_true rfl) (Nat.le_refl _) (fun σ67 pσ67 => ?_)
        obtain ⟨hσ67, hfσ67, pσ67, wσ67⟩ := pσ67
        have hFσ67 := zc_Fc hfσ67 rfl hFσ
        have t17 := zc_g141_6 hσ zc_s141
        refine zr_aload_n (pc := 70) hV dX10_become_70 rfl rfl ?_
        refine zr_getR (pc := 71) hV 2 143 dX10_become_71 fX10_15 rfl rfl (zc_k141 zc_s141) (zc_pos zc_s141 rfl) (zc_g141_2 hσ67 zc_s141) (by decide) ?_
        refine zr_iload_n (pc := 74) hV dX10_become_74 rfl rfl ?_
        refine zr_iload_n (pc := 75) hV dX10_become_75 rfl rfl ?_
        refine zr_iast (pc := 76) hV dX10_become_76 (zc_k143 zc_s143) (zc_pos zc_s143 rfl) rfl (by omega) (fun σ76 eσ76 => ?_)
        have hσ76 : zc_T σ76 := zc_ua143 eσ76 hσ67 zc_s143 (by omega)
        have hFσ76 := zc_Fa eσ76 zc_s143 rfl hFσ67
        refine zr_goto (pc := 77) hV 108 dX10_become_77 (by decide) ?_
        show V 108 [some (ZR 141), some (ZI target), some (ZI word), some (ZI (zq_and r48 255))] [] 284 σ76
        have t18 := zc_g141_6 hσ76 zc_s141
        have t19 : σ76 141 6 = σ67 141 6 := by rw [eσ76]; exact zq_up_ne (zc_dk zc_s141 zc_s143 rfl)
        exact zr_vret (pc := 108) hV dX10_become_108 rfl rfl ⟨rfl, hσ76, hFσ76, trivial, (show zw_cs σ76 141 = zw_up (zw_cs σ 141) (zw_ix (σ 144) (zw_cs σ 141) target) (zw_nv target word) ∧ zw_lg σ σ76 141 ∧ σ 141 6 ≤ σ76 141 6 ∧ σ76 141 6 ≤ σ 141 6 + 1 from (by have w := wσ67; unfold zq_hid at w; have hc0 : zw_cs σ67 141 = zw_cs σ 141 := zw_cs_c (fun i => hfσ67 142 i (zc_out_ar zc_s142 rfl)) (fun i => hfσ67 143 i (zc_out_ar zc_s143 rfl)) (hfσ67 141 3 (zc_out_at zc_s141 rfl)) (hfσ67 141 4 (zc_out_at zc_s141 rfl)); have hcs := zw_cs_um (b := 141) eσ76 rfl (by omega) (by omega); rw [hc0] at hcs; have ix : zw_ix (σ 144) (zw_cs σ 141) target = 8 + zq_and r48 255 := (by have z := pr48.2.2.trans zw_adw; unfold zw_ix; rw [if_neg (by omega), if_neg (by omega), if_neg (by omega), ← z, show zq_and r48 255 = r48 by omega]); have e6 : σ76 141 6 = σ 141 6 + 1 := (by rw [eσ76, zq_up_ne (by omega)]; exact w.1); refine ⟨?_, (zw_lg_p (b := 141) (x := 8 + zq_and r48 255) (v := word) (by omega) (by rw [eσ76, zq_up_ne (by omega)]; exact w.1) (fun i => by rw [eσ76, zq_up_ne (by omega)]; exact w.2.1 i) (fun i => by rw [eσ76, zq_up_ne (by omega)]; rw [zw_cs_m (a := 143) rfl (by omega) (by omega), show 8 + zq_and r48 255 - 8 = zq_and r48 255 by omega]; exact w.2.2 i) hcs (by omega)), by omega, by omega⟩; rw [hcs, ix]; unfold zw_nv; rw [if_neg (by omega), if_neg (by omega)]))⟩
    · show V 26 [some (ZR 141), some (ZI target), some (ZI word), none] [] 284 σ
      refine zr_aload_n (pc := 26) hV dX10_become_26 rfl rfl ?_
      refine zr_iload_n (pc := 27) hV dX10_become_27 rfl rfl ?_
      refine zr_bipush (pc := 28) hV 63 dX10_become_28 (by decide) ?_
      refine zr_iand (pc := 30) hV dX10_become_30 ?_
      have t20 := zq_and_mask word 6 63 64 (by decide) (by decide) (by decide)
      refine zr_putI (pc := 31) hV 4 dX10_become_31 fX10_39 rfl rfl rfl (zc_k141 zc_s141) (zc_pos zc_s141 rfl) (fun σ31 eσ31 => ?_)
      have hσ31 : zc_T σ31 := zc_u141_4 eσ31 hσ zc_s141 (by omega)
      have hFσ31 := zc_Fw eσ31 zc_s141 rfl hFσ
      refine zr_goto (pc := 34) hV 108 dX10_become_34 (by decide) ?_
      show V 108 [some (ZR 141), some (ZI target), some (ZI word), none] [] 284 σ31
      have t21 := zc_g141_6 hσ31 zc_s141
      have t22 : σ31 141 6 = σ 141 6 := by rw [eσ31]; exact zq_up_ne (by omega)
      exact zr_vret (pc := 108) hV dX10_become_108 rfl rfl ⟨rfl, hσ31, hFσ31, trivial, (show zw_cs σ31 141 = zw_up (zw_cs σ 141) (zw_ix (σ 144) (zw_cs σ 141) target) (zw_nv target word) ∧ zw_lg σ σ31 141 ∧ σ 141 6 ≤ σ31 141 6 ∧ σ31 141 6 ≤ σ 141 6 + 1 from (by have hcs := zw_cs_u4 (b := 141) eσ31; refine ⟨?_, (zw_lg_s (b := 141) (by rw [eσ31, zq_up_ne (by omega)]) (fun i => by rw [eσ31, zq_up_ne (by omega)]) (fun i => by rw [eσ31, zq_up_ne (by omega)]) (fun i hi => by rw [hcs]; show (if i = _ then _ else _) = _; rw [if_neg (by omega)])), (by rw [eσ31, zq_up_ne (by omega)]; omega), (by rw [eσ31, zq_up_ne (by omega)]; omega)⟩; rw [hcs]; unfold zw_ix zw_nv; rw [if_neg (by omega), if_neg (by omega), if_pos (by omega), if_neg (by omega), if_pos (by omega), show zq_and word 63 = word % 64 by omega]))⟩
  · show V 5 [some (ZR 141), some (ZI target), some (ZI word), none] [] 284 σ
    refine zr_aload_n (pc := 5) hV dX10_become_5 rfl rfl ?_
    refine zr_iload_n (pc := 6) hV dX10_become_6 rfl rfl ?_
    refine zr_if_ne (pc := 7) hV 14 dX10_become_7 (by decide) (by omega) (fun c23 => ?_) (fun c23 => ?_)
    · show V 14 [some (ZR 141), some (ZI target), some (ZI word), none] [ZR 141] 284 σ
      refine zr_iconst (pc := 14) hV 1 dX10_become_14 rfl ?_
      show V 15 [some (ZR 141), some (ZI target), some (ZI word), none] [ZI 1, ZR 141] 284 σ
      refine zr_putI (pc := 15) hV 3 dX10_become_15 fX10_35 rfl rfl rfl (zc_k141 zc_s141) (zc_pos zc_s141 rfl) (fun σ15 eσ15 => ?_)
      have hσ15 : zc_T σ15 := zc_u141_3 eσ15 hσ zc_s141 (by omega)
      have hFσ15 := zc_Fw eσ15 zc_s141 rfl hFσ
      refine zr_goto (pc := 18) hV 108 dX10_become_18 (by decide) ?_
      show V 108 [some (ZR 141), some (ZI target), some (ZI word), none] [] 284 σ15
      have t24 := zc_g141_6 hσ15 zc_s141
      have t25 : σ15 141 6 = σ 141 6 := by rw [eσ15]; exact zq_up_ne (by omega)
      exact zr_vret (pc := 108) hV dX10_become_108 rfl rfl ⟨rfl, hσ15, hFσ15, trivial, (show zw_cs σ15 141 = zw_up (zw_cs σ 141) (zw_ix (σ 144) (zw_cs σ 141) target) (zw_nv target word) ∧ zw_lg σ σ15 141 ∧ σ 141 6 ≤ σ15 141 6 ∧ σ15 141 6 ≤ σ 141 6 + 1 from (by have hcs := zw_cs_u3 (b := 141) eσ15; refine ⟨?_, (zw_lg_s (b := 141) (by rw [eσ15, zq_up_ne (by omega)]) (fun i => by rw [eσ15, zq_up_ne (by omega)]) (fun i => by rw [eσ15, zq_up_ne (by omega)]) (fun i hi => by rw [hcs]; show (if i = _ then _ else _) = _; rw [if_neg (by omega)])), (by rw [eσ15, zq_up_ne (by omega)]; omega), (by rw [eσ15, zq_up_ne (by omega)]; omega)⟩; rw [hcs]; unfold zw_ix zw_nv; rw [if_neg (by omega), if_pos (by omega), if_pos (by omega)]; first | rw [if_pos (by omega)] | rw [if_neg (by omega)]))⟩
    · show V 10 [some (ZR 141), some (ZI target), some (ZI word), none] [ZR 141] 284 σ
      refine zr_iconst (pc := 10) hV 0 dX10_become_10 rfl ?_
      refine zr_goto (pc := 11) hV 15 dX10_become_11 (by decide) ?_
      show V 15 [some (ZR 141), some (ZI target), some (ZI word), none] [ZI 0, ZR 141] 284 σ
      refine zr_putI (pc := 15) hV 3 dX10_become_15 fX10_35 rfl rfl rfl (zc_k141 zc_s141) (zc_pos zc_s141 rfl) (fun σ15 eσ15 => ?_)
      have hσ15 : zc_T σ15 := zc_u141_3 eσ15 hσ zc_s141 (by omega)
      have hFσ15 := zc_Fw eσ15 zc_s141 rfl hFσ
      refine zr_goto (pc := 18) hV 108 dX10_become_18 (by decide) ?_
      show V 108 [some (ZR 141), some (ZI target), some (ZI word), none] [] 284 σ15
      have t26 := zc_g141_6 hσ15 zc_s141
      have t27 : σ15 141 6 = σ 141 6 := by rw [eσ15]; exact zq_up_ne (by omega)
      exact zr_vret (pc := 108) hV dX10_become_108 rfl rfl ⟨rfl, hσ15, hFσ15, trivial, (show zw_cs σ15 141 = zw_up (zw_cs σ 141) (zw_ix (σ 144) (zw_cs σ 141) target) (zw_nv target word) ∧ zw_lg σ σ15 141 ∧ σ 141 6 ≤ σ15 141 6 ∧ σ15 141 6 ≤ σ 141 6 + 1 from (by have hcs := zw_cs_u3 (b := 141) eσ15; refine ⟨?_, (zw_lg_s (b := 141) (by rw [eσ15, zq_up_ne (by omega)]) (fun i => by rw [eσ15, zq_up_ne (by omega)]) (fun i => by rw [eσ15, zq_up_ne (by omega)]) (fun i hi => by rw [hcs]; show (if i = _ then _ else _) = _; rw [if_neg (by omega)])), (by rw [eσ15, zq_up_ne (by omega)]; omega), (by rw [eσ15, zq_up_ne (by omega)]; omega)⟩; rw [hcs]; unfold zw_ix zw_nv; rw [if_neg (by omega), if_pos (by omega), if_pos (by omega)]; first | rw [if_pos (by omega)] | rw [if_neg (by omega)]))⟩
set_option maxHeartbeats 800000 in
theorem c_X3_doOn_W2 {σ : zq_S} (hσ : zc_T σ) (this : Int) (kthis : zc_kd this = 4) (q0 : zq_hid (zw_oo σ this)) (q1 : zq_hid (zw_ok (σ 144) (zw_cs σ 141) (σ 141 0))) (q2 : σ 141 6 = 0) : zq_C zc_w yX3_doOn cX3_doOn 4 (none) 3 65 284 284 [ZR this, ZR 141] σ (zq_pv (fun τ => zc_T τ ∧ zc_Fr [(141, 3), (141, 4), (141, 6), (142, -1), (143, -1), (145, -1), (146, -1)] σ τ ∧ (True) ∧ zq_hid (zw_cs τ 141 = zw_do (σ 144) (σ 141 0) (zw_ra σ this) 0 (σ this 4) (σ this 5) (σ this 6) (zw_cs σ 141) ∧ zw_ok (σ 144) (zw_cs τ 141) (σ 141 0) ∧ zw_lg σ τ 141))) := by
  refine zq_C_of (by decide) (Nat.le_refl _) (Nat.le_of_ble_eq_true rfl) [some (ZR this), some (ZR 141), none, none] rfl (fun V hV => ?_)
  have pothis := zc_pos kthis rfl
  have hFσ := zc_Fr_rf [(141, 3), (141, 4), (141, 6), (142, -1), (143, -1), (145, -1), (146, -1)] σ
  have z6t := zc_g4_6 hσ kthis
  show V 0 [some (ZR this), some (ZR 141), none, none] [] 284 σ
  refine zr_aload_n (pc := 0) hV dX3_doOn_0 rfl rfl ?_
  refine zr_getI (pc := 1) hV 4 dX3_doOn_1 fX3_43 rfl rfl (zc_k4 kthis) (zc_pos kthis rfl) ?_
  have t1 := zc_g4_4 hσ kthis
  have J40 : (zq_hid (zw_gd (σ 144) (zw_cs σ 141) (σ this 4) (σ this 5))) → V 40 [some (ZR this), some (ZR 141), none, none] [] 284 σ := by
    intro hi40_0
    show V 40 [some (ZR this), some (ZR 141), none, none] [] 284 σ
    refine zr_iconst (pc := 40) hV 0 dX3_doOn_40 rfl ?_
    refine zr_istore_n (pc := 41) hV [some (ZR this), some (ZR 141), some (ZI 0), none] dX3_doOn_41 rfl (by decide) rfl rfl ?_
    have L42 : ∀ (fuel : Nat) (x2_42 : Int) (σ_42 : zq_S), (0 ≤ x2_42 ∧ x2_42 ≤ 3) → (zc_T σ_42) → (zc_Fr [(141, 3), (141, 4), (141, 6), (142, -1), (143, -1), (145, -1), (146, -1)] σ σ_42) → (zq_hid (zw_cs σ_42 141 = zw_as (σ 144) (σ 141 0) (zw_ra σ this) (18 * 0) x2_42 (zw_cs σ 141))) → (zq_hid (zw_ok (σ 144) (zw_cs σ_42 141) (σ 141 0))) → (σ_42 141 6 ≤ x2_42) → (zq_hid (zw_lg σ σ_42 141)) → (x2_42 ≤ σ this 6) → (zq_hid (zw_gd (σ 144) (zw_cs σ 141) (σ this 4) (σ this 5))) → 3 - x2_42 < (fuel : Int) → V 42 [some (ZR this), some (ZR 141), some (ZI x2_42), none] [] 284 σ_42 := by
      intro fuel
      induction fuel with
      | zero =>
        intro x2_42 σ_42 hx2_42 hσ_42 hFσ_42 hi42_0 hi42_1 hi42_2 hi42_3 hi42_4 hi42_5 hm42
        exfalso; omega
      | succ fuel ih =>
        intro x2_42 σ_42 hx2_42 hσ_42 hFσ_42 hi42_0 hi42_1 hi42_2 hi42_3 hi42_4 hi42_5 hm42
        have ih42 := ih
        show V 42 [some (ZR this), some (ZR 141), some (ZI x2_42), none] [] 284 σ_42
        refine zr_iload_n (pc := 42) hV dX3_doOn_42 rfl rfl ?_
        refine zr_aload_n (pc := 43) hV dX3_doOn_43 rfl rfl ?_
        refine zr_getI (pc := 44) hV 6 dX3_doOn_44 fX3_49 rfl rfl (zc_k4 kthis) (zc_pos kthis rfl) ?_
        have t2 := zc_g4_6 hσ_42 kthis
        have t3 : σ_42 this 6 = σ this 6 := hFσ_42 _ _ (zc_out_at kthis rfl)
        refine zr_icmp_ge (pc := 47) hV 112 dX3_doOn_47 (by decide) (by omega) (by omega) (fun c4 => ?_) (fun c4 => ?_)
        · show V 112 [some (ZR this), some (ZR 141), some (ZI x2_42), none] [] 284 σ_42
          exact zr_vret (pc := 112) hV dX3_doOn_112 rfl rfl ⟨rfl, hσ_42, hFσ_42, trivial, (show zw_cs σ_42 141 = zw_do (σ 144) (σ 141 0) (zw_ra σ this) 0 (σ this 4) (σ this 5) (σ this 6) (zw_cs σ 141) ∧ zw_ok (σ 144) (zw_cs σ_42 141) (σ 141 0) ∧ zw_lg σ σ_42 141 from ⟨by rw [zw_do_y hi42_5, show σ this 6 = x2_42 by omega]; exact hi42_0, hi42_1, hi42_3⟩)⟩
        · show V 50 [some (ZR this), some (ZR 141), some (ZI x2_42), none] [] 284 σ_42
          have eF : σ_42 144 = σ 144 := funext (fun i => hFσ_42 144 i (zc_out_ar zc_s144 rfl))
          have eM : σ_42 141 0 = σ 141 0 := hFσ_42 141 0 (zc_out_at zc_s141 rfl)
          have eo2 : σ_42 (this + 2) x2_42 = σ (this + 2) x2_42 := hFσ_42 _ _ (zc_out_ar (zc_p4_2 kthis) rfl)
          have eo3 : σ_42 (this + 3) x2_42 = σ (this + 3) x2_42 := hFσ_42 _ _ (zc_out_ar (zc_p4_3 kthis) rfl)
          have eo4 : σ_42 (this + 4) x2_42 = σ (this + 4) x2_42 := hFσ_42 _ _ (zc_out_ar (zc_p4_4 kthis) rfl)
          have eo5 : σ_42 (this + 5) x2_42 = σ (this + 5) x2_42 := hFσ_42 _ _ (zc_out_ar (zc_p4_5 kthis) rfl)
          have oo := q0.2 x2_42 (by omega) (by omega)
          refine zr_aload_n (pc := 50) hV dX3_doOn_50 rfl rfl ?_
          refine zr_aload_n (pc := 51) hV dX3_doOn_51 rfl rfl ?_
          refine zr_getR (pc := 52) hV 8 (this + 3) dX3_doOn_52 fX3_18 rfl rfl (zc_k4 kthis) (zc_pos kthis rfl) (zc_g4_8 hσ_42 kthis) (zc_pos (zc_p4_3 kthis) rfl).1 ?_
          refine zr_iload_n (pc := 55) hV dX3_doOn_55 rfl rfl ?_
          refine zr_iald (pc := 56) hV dX3_doOn_56 (zc_k7 (zc_p4_3 kthis)) (zc_pos (zc_p4_3 kthis) rfl) rfl (by omega) ?_
          have t5 := zc_ga7 hσ_42 (zc_p4_3 kthis) x2_42
          have t6 : σ_42 (this + 3) x2_42 = σ (this + 3) x2_42 := hFσ_42 _ _ (zc_out_ar (zc_p4_3 kthis) rfl)
          have t7 := zc_g141_0 hσ_42 zc_s141
          have t8 : σ_42 141 0 = σ 141 0 := hFσ_42 _ _ (zc_out_at zc_s141 rfl)
          refine zr_callUp (pc := 57) hV [ZI (σ_42 (this + 3) x2_42)] (st := []) (c_X10_wordOf_2 (σ := σ_42) hσ_42 (σ_42 (this + 3) x2_42) (by omega) (zc_ga7 hσ_42 (zc_p4_3 kthis) _).2.2 (by rw [eF, eM]; exact hi42_1)) dX3_doOn_57 mX3_102_10 (zc_k141 zc_s141) (zc_pos zc_s141 rfl) (by decide) (Nat.le_of_ble_eq_true rfl) (Nat.le_refl _) (fun r57 hr57 pr57 => ?_)
          have t9 := zc_g141_0 hσ_42 zc_s141
          have t10 : σ_42 141 0 = σ 141 0 := hFσ_42 _ _ (zc_out_at zc_s141 rfl)
          refine zr_istore_n (pc := 60) hV [some (ZR this), some (ZR 141), some (ZI x2_42), some (ZI r57)] dX3_doOn_60 rfl (by decide) rfl rfl ?_
          refine zr_aload_n (pc := 61) hV dX3_doOn_61 rfl rfl ?_
          refine zr_getR (pc := 62) hV 9 (this + 4) dX3_doOn_62 fX3_21 rfl rfl (zc_k4 kthis) (zc_pos kthis rfl) (zc_g4_9 hσ_42 kthis) (zc_pos (zc_p4_4 kthis) rfl).1 ?_
          refine zr_iload_n (pc := 65) hV dX3_doOn_65 rfl rfl ?_
          refine zr_iald (pc := 66) hV dX3_doOn_66 (zc_k8 (zc_p4_4 kthis)) (zc_pos (zc_p4_4 kthis) rfl) rfl (by omega) ?_
          have t11 := zc_ga8 hσ_42 (zc_p4_4 kthis) x2_42
          have t12 : σ_42 (this + 4) x2_42 = σ (this + 4) x2_42 := hFσ_42 _ _ (zc_out_ar (zc_p4_4 kthis) rfl)
          have J95 : ∀ (x3_95 : Int), (0 ≤ x3_95 ∧ x3_95 ≤ 255) → (zq_hid (x3_95 = zw_vl (σ 144) (zw_cs σ_42 141) (σ 141 0) (zw_ra σ this) (18 * 0 + 6 * x2_42))) → (0 ≤ x3_95 ∧ x3_95 ≤ σ 141 0) → V 95 [some (ZR this), some (ZR 141), some (ZI x2_42), some (ZI x3_95)] [] 284 σ_42 := by
            intro x3_95 hx3_95 hi95_0 hi95_1
            show V 95 [some (ZR this), some (ZR 141), some (ZI x2_42), some (ZI x3_95)] [] 284 σ_42
            refine zr_aload_n (pc := 95) hV dX3_doOn_95 rfl rfl ?_
            refine zr_aload_n (pc := 96) hV dX3_doOn_96 rfl rfl ?_
            refine zr_getR (pc := 97) hV 7 (this + 2) dX3_doOn_97 fX3_15 rfl rfl (zc_k4 kthis) (zc_pos kthis rfl) (zc_g4_7 hσ_42 kthis) (zc_pos (zc_p4_2 kthis) rfl).1 ?_
            refine zr_iload_n (pc := 100) hV dX3_doOn_100 rfl rfl ?_
            refine zr_iald (pc := 101) hV dX3_doOn_101 (zc_k6 (zc_p4_2 kthis)) (zc_pos (zc_p4_2 kthis) rfl) rfl (by omega) ?_
            have t13 := zc_ga6 hσ_42 (zc_p4_2 kthis) x2_42
            have t14 : σ_42 (this + 2) x2_42 = σ (this + 2) x2_42 := hFσ_42 _ _ (zc_out_ar (zc_p4_2 kthis) rfl)
            refine zr_iload_n (pc := 102) hV dX3_doOn_102 rfl rfl ?_
            have t15 := zc_g141_0 hσ_42 zc_s141
            have t16 : σ_42 141 0 = σ 141 0 := hFσ_42 _ _ (zc_out_at zc_s141 rfl)
            have t17 := zc_g141_6 hσ_42 zc_s141
            have t18 := zc_g141_0 hσ_42 zc_s141
            have t19 : σ_42 141 0 = σ 141 0 := hFσ_42 _ _ (zc_out_at zc_s141 rfl)
            refine zr_callUv (pc := 103) hV [ZI (σ_42 (this + 2) x2_42), ZI x3_95] (st := []) (c_X10_become_2 (σ := σ_42) hσ_42 (σ_42 (this + 2) x2_42) x3_95 (by omega) (by omega) (by rw [eo2]; exact oo.1) (by rw [eF, eM]; exact hi42_1) (by omega) (by omega)) dX3_doOn_103 mX3_114_10 (zc_k141 zc_s141) (zc_pos zc_s141 rfl) (by decide) (Nat.le_of_ble_eq_true rfl) (Nat.le_refl _) (fun σ103 pσ103 => ?_)
            obtain ⟨hσ103, hfσ103, pσ103, wσ103⟩ := pσ103
            have hFσ103 := zc_Fc hfσ103 rfl hFσ_42
            have t20 := zc_g141_6 hσ_42 zc_s141
            refine zr_iinc (pc := 106) hV [some (ZR this), some (ZR 141), some (ZI (x2_42 + 1)), some (ZI x3_95)] (x2_42 + 1) dX3_doOn_106 rfl rfl (by decide) rfl rfl ?_
            refine zr_goto (pc := 109) hV 42 dX3_doOn_109 (by decide) ?_
            have t21 := zc_g141_6 hσ103 zc_s141
            refine zr_sub (pc := 42) hV [some (ZR this), some (ZR 141), some (ZI (x2_42 + 1)), none] (⟨rfl, rfl, rfl, trivial⟩) ?_
            exact ih42 (x2_42 + 1) σ103 (by omega) hσ103 hFσ103 (by have w := wσ103; unfold zq_hid at w; rw [eF, eo2] at w; have h0 := hi42_0; unfold zq_hid at h0; have h5 : x3_95 = zw_vl (σ 144) (zw_cs σ_42 141) (σ 141 0) (zw_ra σ this) (18 * 0 + 6 * x2_42) := hi95_0; unfold zq_hid; rw [zw_as_s (by omega), ← h0, w.1]; unfold zw_ac; rw [zw_ra_0 (j := x2_42) (by omega), ← h5]) (by have w := wσ103; unfold zq_hid at w; rw [eF, eo2] at w; have h0 := hi42_0; unfold zq_hid at h0; have h5 : x3_95 = zw_vl (σ 144) (zw_cs σ_42 141) (σ 141 0) (zw_ra σ this) (18 * 0 + 6 * x2_42) := hi95_0; unfold zq_hid; rw [w.1]; exact zw_ok_up hi42_1 ⟨by omega, by omega, oo.1⟩ (by omega)) (by have z := wσ103.2.2; omega) (zw_lg_t hi42_3 wσ103.2.1) (by omega) hi42_5 (by omega)
          refine zr_if_eq (pc := 67) hV 95 dX3_doOn_67 (by decide) (by omega) (fun c22 => ?_) (fun c22 => ?_)
          · exact J95 r57 (by omega) (zw_vl_0 hi42_1 (by rw [zw_ra_3 (j := x2_42) (by omega), show σ (this + 4) x2_42 = 0 by omega]; exact zt_sn_0) (by have z := pr57.2.2; rw [eF, eM, eo3] at z; rw [zw_ra_1 (j := x2_42) (by omega), zw_ra_2 (j := x2_42) (by omega)]; exact z) (by omega)) (by omega)
          · show V 70 [some (ZR this), some (ZR 141), some (ZI x2_42), some (ZI r57)] [] 284 σ_42
            refine zr_aload_n (pc := 70) hV dX3_doOn_70 rfl rfl ?_
            refine zr_getR (pc := 71) hV 9 (this + 4) dX3_doOn_71 fX3_21 rfl rfl (zc_k4 kthis) (zc_pos kthis rfl) (zc_g4_9 hσ_42 kthis) (zc_pos (zc_p4_4 kthis) rfl).1 ?_
            refine zr_iload_n (pc := 74) hV dX3_doOn_74 rfl rfl ?_
            refine zr_iald (pc := 75) hV dX3_doOn_75 (zc_k8 (zc_p4_4 kthis)) (zc_pos (zc_p4_4 kthis) rfl) rfl (by omega) ?_
            have t23 := zc_ga8 hσ_42 (zc_p4_4 kthis) x2_42
            have t24 : σ_42 (this + 4) x2_42 = σ (this + 4) x2_42 := hFσ_42 _ _ (zc_out_ar (zc_p4_4 kthis) rfl)
            refine zr_iload_n (pc := 76) hV dX3_doOn_76 rfl rfl ?_
            refine zr_aload_n (pc := 77) hV dX3_doOn_77 rfl rfl ?_
            refine zr_aload_n (pc := 78) hV dX3_doOn_78 rfl rfl ?_
            refine zr_getR (pc := 79) hV 10 (this + 5) dX3_doOn_79 fX3_24 rfl rfl (zc_k4 kthis) (zc_pos kthis rfl) (zc_g4_10 hσ_42 kthis) (zc_pos (zc_p4_5 kthis) rfl).1 ?_
            refine zr_iload_n (pc := 82) hV dX3_doOn_82 rfl rfl ?_
            refine zr_iald (pc := 83) hV dX3_doOn_83 (zc_k9 (zc_p4_5 kthis)) (zc_pos (zc_p4_5 kthis) rfl) rfl (by omega) ?_
            have t25 := zc_ga9 hσ_42 (zc_p4_5 kthis) x2_42
            have t26 : σ_42 (this + 5) x2_42 = σ (this + 5) x2_42 := hFσ_42 _ _ (zc_out_ar (zc_p4_5 kthis) rfl)
            have t27 := zc_g141_0 hσ_42 zc_s141
            have t28 : σ_42 141 0 = σ 141 0 := hFσ_42 _ _ (zc_out_at zc_s141 rfl)
            refine zr_callUp (pc := 84) hV [ZI (σ_42 (this + 5) x2_42)] (st := [ZI r57, ZI (σ_42 (this + 4) x2_42)]) (c_X10_wordOf_2 (σ := σ_42) hσ_42 (σ_42 (this + 5) x2_42) (by omega) (zc_ga9 hσ_42 (zc_p4_5 kthis) _).2.2 (by rw [eF, eM]; exact hi42_1)) dX3_doOn_84 mX3_102_10 (zc_k141 zc_s141) (zc_pos zc_s141 rfl) (by decide) (Nat.le_of_ble_eq_true rfl) (Nat.le_refl _) (fun r84 hr84 pr84 => ?_)
            have t29 := zc_g141_0 hσ_42 zc_s141
            have t30 : σ_42 141 0 = σ 141 0 := hFσ_42 _ _ (zc_out_at zc_s141 rfl)
            refine zr_aload_n (pc := 87) hV dX3_doOn_87 rfl rfl ?_
            refine zr_getI (pc := 88) hV 0 dX3_doOn_88 fX3_107_10 rfl rfl (zc_k141 zc_s141) (zc_pos zc_s141 rfl) ?_
            have t31 := zc_g141_0 hσ_42 zc_s141
            have t32 : σ_42 141 0 = σ 141 0 := hFσ_42 _ _ (zc_out_at zc_s141 rfl)
            have t33 := zc_g141_0 hσ_42 zc_s141
            have t34 : σ_42 141 0 = σ 141 0 := hFσ_42 _ _ (zc_out_at zc_s141 rfl)
            refine zr_callSp (pc := 91) hV [ZI (σ_42 (this + 4) x2_42), ZI r57, ZI r84, ZI (σ_42 141 0)] (st := []) (c_X3_combine_2 (σ := σ_42) (σ_42 (this + 4) x2_42) r57 r84 (σ_42 141 0) (by omega) (by omega) (by omega) (by omega)) dX3_doOn_91 mX3_110 (by decide) (Nat.le_of_ble_eq_true rfl) (Nat.le_refl _) (fun r91 hr91 pr91 => ?_)
            have t35 := zc_g141_0 hσ_42 zc_s141
            have t36 : σ_42 141 0 = σ 141 0 := hFσ_42 _ _ (zc_out_at zc_s141 rfl)
            refine zr_istore_n (pc := 94) hV [some (ZR this), some (ZR 141), some (ZI x2_42), some (ZI r91)] dX3_doOn_94 rfl (by decide) rfl rfl ?_
            exact J95 r91 (by omega) (zw_vl_1 (c := σ (this + 4) x2_42) (x := r57) (y := r84) hi42_1 (zw_ra_3 (j := x2_42) (by omega)) (by rcases oo.2 with z | z; (exfalso; omega); exact z) (by have z := pr57.2.2; rw [eF, eM, eo3] at z; rw [zw_ra_1 (j := x2_42) (by omega), zw_ra_2 (j := x2_42) (by omega)]; exact z) (by have z := pr84.2.2; rw [eF, eM, eo5] at z; rw [zw_ra_4 (j := x2_42) (by omega), zw_ra_5 (j := x2_42) (by omega)]; exact z) (by omega) (by omega) (by have z := pr91.2; rw [eo4, eM] at z; exact z)) (by have e : r91 = zw_vl (σ 144) (zw_cs σ_42 141) (σ 141 0) (zw_ra σ this) (18 * 0 + 6 * x2_42) := (zw_vl_1 (c := σ (this + 4) x2_42) (x := r57) (y := r84) hi42_1 (zw_ra_3 (j := x2_42) (by omega)) (by rcases oo.2 with z | z; (exfalso; omega); exact z) (by have z := pr57.2.2; rw [eF, eM, eo3] at z; rw [zw_ra_1 (j := x2_42) (by omega), zw_ra_2 (j := x2_42) (by omega)]; exact z) (by have z := pr84.2.2; rw [eF, eM, eo5] at z; rw [zw_ra_4 (j := x2_42) (by omega), zw_ra_5 (j := x2_42) (by omega)]; exact z) (by omega) (by omega) (by have z := pr91.2; rw [eo4, eM] at z; exact z)); rw [e]; exact zw_vl_b hi42_1)
    have t37 := zc_g141_6 hσ zc_s141
    exact L42 (3 - (0 : Int) + 1 : Int).toNat 0 σ (by omega) hσ hFσ (zw_as_0 _ _ _ _ _).symm q1 (by omega) (zw_lg_r σ 141) (by omega) hi40_0 (by omega)
  refine zr_if_eq (pc := 4) hV 40 dX3_doOn_4 (by decide) (by omega) (fun c38 => ?_) (fun c38 => ?_)
  · have t39 := zc_g4_4 hσ kthis
    have t40 := zc_g4_5 hσ kthis
    exact J40 (by unfold zq_hid zw_gd; first | exact Or.inl (by omega) | exact Or.inr (by rw [← eg]; omega))
  · show V 7 [some (ZR this), some (ZR 141), none, none] [] 284 σ
    refine zr_aload_n (pc := 7) hV dX3_doOn_7 rfl rfl ?_
    refine zr_aload_n (pc := 8) hV dX3_doOn_8 rfl rfl ?_
    refine zr_getI (pc := 9) hV 5 dX3_doOn_9 fX3_46 rfl rfl (zc_k4 kthis) (zc_pos kthis rfl) ?_
    have t41 := zc_g4_5 hσ kthis
    have t42 := zc_g4_5 hσ kthis
    have t43 := zc_g4_5 hσ kthis
    have t44 := zc_g141_0 hσ zc_s141
    refine zr_callUp (pc := 12) hV [ZI (σ this 5)] (st := []) (c_X10_wordOf_2 (σ := σ) hσ (σ this 5) (by omega) (Or.inl (by omega)) q1) dX3_doOn_12 mX3_102_10 (zc_k141 zc_s141) (zc_pos zc_s141 rfl) (by decide) (Nat.le_of_ble_eq_true rfl) (Nat.le_refl _) (fun r12 hr12 pr12 => ?_)
    have t45 := zc_g141_0 hσ zc_s141
    have t46 := zc_g4_5 hσ kthis
    have eg : r12 = (if σ this 5 = 4 then zw_cs σ 141 264 else zw_cs σ 141 (σ 144 (σ this 5))) := pr12.2.2.trans (zw_gw (by omega) (q0.1 (by omega)))
    refine zr_if_eq (pc := 15) hV 22 dX3_doOn_15 (by decide) (by omega) (fun c47 => ?_) (fun c47 => ?_)
    · show V 22 [some (ZR this), some (ZR 141), none, none] [] 284 σ
      refine zr_iconst (pc := 22) hV 0 dX3_doOn_22 rfl ?_
      show V 23 [some (ZR this), some (ZR 141), none, none] [ZI 0] 284 σ
      refine zr_aload_n (pc := 23) hV dX3_doOn_23 rfl rfl ?_
      refine zr_getI (pc := 24) hV 4 dX3_doOn_24 fX3_43 rfl rfl (zc_k4 kthis) (zc_pos kthis rfl) ?_
      have t48 := zc_g4_4 hσ kthis
      refine zr_iconst (pc := 27) hV 1 dX3_doOn_27 rfl ?_
      refine zr_icmp_ne (pc := 28) hV 35 dX3_doOn_28 (by decide) (by omega) ⟨by decide, by decide⟩ (fun c49 => ?_) (fun c49 => ?_)
      · show V 35 [some (ZR this), some (ZR 141), none, none] [ZI 0] 284 σ
        refine zr_iconst (pc := 35) hV 0 dX3_doOn_35 rfl ?_
        show V 36 [some (ZR this), some (ZR 141), none, none] [ZI 0, ZI 0] 284 σ
        refine zr_icmp_eq (pc := 36) hV 40 dX3_doOn_36 (by decide) ⟨by decide, by decide⟩ ⟨by decide, by decide⟩ (fun c50 => ?_) (fun c50 => ?_)
        · have t51 := zc_g4_4 hσ kthis
          have t52 := zc_g4_5 hσ kthis
          exact J40 (by unfold zq_hid zw_gd; first | exact Or.inl (by omega) | exact Or.inr (by rw [← eg]; omega))
        · exfalso; omega
      · show V 31 [some (ZR this), some (ZR 141), none, none] [ZI 0] 284 σ
        refine zr_iconst (pc := 31) hV 1 dX3_doOn_31 rfl ?_
        refine zr_goto (pc := 32) hV 36 dX3_doOn_32 (by decide) ?_
        show V 36 [some (ZR this), some (ZR 141), none, none] [ZI 1, ZI 0] 284 σ
        refine zr_icmp_eq (pc := 36) hV 40 dX3_doOn_36 (by decide) ⟨by decide, by decide⟩ ⟨by decide, by decide⟩ (fun c53 => ?_) (fun c53 => ?_)
        · exfalso; omega
        · show V 39 [some (ZR this), some (ZR 141), none, none] [] 284 σ
          exact zr_vret (pc := 39) hV dX3_doOn_39 rfl rfl ⟨rfl, hσ, hFσ, trivial, (show zw_cs σ 141 = zw_do (σ 144) (σ 141 0) (zw_ra σ this) 0 (σ this 4) (σ this 5) (σ this 6) (zw_cs σ 141) ∧ zw_ok (σ 144) (zw_cs σ 141) (σ 141 0) ∧ zw_lg σ σ 141 from ⟨by rw [zw_do_n (fun q => by rcases q with q | q; omega; (rw [← eg] at q; omega))], q1, zw_lg_r σ 141⟩)⟩
    · show V 18 [some (ZR this), some (ZR 141), none, none] [] 284 σ
      refine zr_iconst (pc := 18) hV 1 dX3_doOn_18 rfl ?_
      refine zr_goto (pc := 19) hV 23 dX3_doOn_19 (by decide) ?_
      show V 23 [some (ZR this), some (ZR 141), none, none] [ZI 1] 284 σ
      refine zr_aload_n (pc := 23) hV dX3_doOn_23 rfl rfl ?_
      refine zr_getI (pc := 24) hV 4 dX3_doOn_24 fX3_43 rfl rfl (zc_k4 kthis) (zc_pos kthis rfl) ?_
      have t54 := zc_g4_4 hσ kthis
      refine zr_iconst (pc := 27) hV 1 dX3_doOn_27 rfl ?_
      refine zr_icmp_ne (pc := 28) hV 35 dX3_doOn_28 (by decide) (by omega) ⟨by decide, by decide⟩ (fun c55 => ?_) (fun c55 => ?_)
      · show V 35 [some (ZR this), some (ZR 141), none, none] [ZI 1] 284 σ
        refine zr_iconst (pc := 35) hV 0 dX3_doOn_35 rfl ?_
        show V 36 [some (ZR this), some (ZR 141), none, none] [ZI 0, ZI 1] 284 σ
        refine zr_icmp_eq (pc := 36) hV 40 dX3_doOn_36 (by decide) ⟨by decide, by decide⟩ ⟨by decide, by decide⟩ (fun c56 => ?_) (fun c56 => ?_)
        · exfalso; omega
        · show V 39 [some (ZR this), some (ZR 141), none, none] [] 284 σ
          exact zr_vret (pc := 39) hV dX3_doOn_39 rfl rfl ⟨rfl, hσ, hFσ, trivial, (show zw_cs σ 141 = zw_do (σ 144) (σ 141 0) (zw_ra σ this) 0 (σ this 4) (σ this 5) (σ this 6) (zw_cs σ 141) ∧ zw_ok (σ 144) (zw_cs σ 141) (σ 141 0) ∧ zw_lg σ σ 141 from ⟨by rw [zw_do_n (fun q => by rcases q with q | q; omega; (rw [← eg] at q; omega))], q1, zw_lg_r σ 141⟩)⟩
      · show V 31 [some (ZR this), some (ZR 141), none, none] [ZI 1] 284 σ
        refine zr_iconst (pc := 31) hV 1 dX3_doOn_31 rfl ?_
        refine zr_goto (pc := 32) hV 36 dX3_doOn_32 (by decide) ?_
        show V 36 [some (ZR this), some (ZR 141), none, none] [ZI 1, ZI 1] 284 σ
        refine zr_icmp_eq (pc := 36) hV 40 dX3_doOn_36 (by decide) ⟨by decide, by decide⟩ ⟨by decide, by decide⟩ (fun c57 => ?_) (fun c57 => ?_)
        · have t58 := zc_g4_4 hσ kthis
          have t59 := zc_g4_5 hσ kthis
          exact J40 (by unfold zq_hid zw_gd; first | exact Or.inl (by omega) | exact Or.inr (by rw [← eg]; omega))
        · exfalso; omega
set_option maxHeartbeats 800000 in
theorem c_X10_perform_2 {σ : zq_S} (hσ : zc_T σ) (order : Int) (korder : zc_kd order = 4) (bits : Int) (q0 : 0 ≤ bits ∧ bits ≤ 4095) (q1 : zq_hid (zw_oo σ order)) (q2 : zq_hid ((∀ f, 0 ≤ f → f ≤ 2 → 0 ≤ zu_cv σ order bits f ∧ zu_cv σ order bits f ≤ 7) ∧ 0 ≤ zu_cv σ order bits 3 ∧ zu_cv σ order bits 3 ≤ σ 141 0)) (q3 : zq_hid (zw_ok (fun _ => 0) (zw_cs σ 141) (σ 141 0))) : zq_C zc_w yX10_perform cX10_perform 4 (none) 4 88 284 284 [ZR 141, ZR order, ZI bits] σ (zq_pv (fun τ => zc_T τ ∧ zc_Fr [(141, 3), (141, 4), (141, 6), (142, -1), (143, -1), (144, -1), (145, -1), (146, -1)] σ τ ∧ (True) ∧ zq_hid (zw_cs τ 141 = zw_do (τ 144) (σ 141 0) (zw_ra σ order) 0 (σ order 4) (σ order 5) (σ order 6) (zw_up (zw_cs σ 141) 265 ((σ 141 4 + 1) % 64)) ∧ zw_ok (τ 144) (zw_cs τ 141) (σ 141 0) ∧ (∀ i, i < 264 → zw_un (τ 145) (τ 146) (τ 141 6) (zw_cs τ 141) i = zw_cs σ 141 i) ∧ (∀ j, 0 ≤ j → j < τ 141 6 → 0 ≤ τ 145 j ∧ τ 145 j < 264) ∧ (∀ f, 0 ≤ f → f ≤ 3 → τ 144 f = zu_cv σ order bits f)))) := by
  refine zq_C_of (by decide) (Nat.le_refl _) (Nat.le_of_ble_eq_true rfl) [some (ZR 141), some (ZR order), some (ZI bits), none] rfl (fun V hV => ?_)
  have poorder := zc_pos korder rfl
  have hFσ := zc_Fr_rf [(141, 3), (141, 4), (141, 6), (142, -1), (143, -1), (144, -1), (145, -1), (146, -1)] σ
  have okp : 0 ≤ σ 141 4 ∧ σ 141 4 ≤ 63 := by have z := q3.2.2.2.2.1; rw [zw_cs_p] at z; exact z
  show V 0 [some (ZR 141), some (ZR order), some (ZI bits), none] [] 284 σ
  refine zr_iconst (pc := 0) hV 0 dX10_perform_0 rfl ?_
  refine zr_istore_n (pc := 1) hV [some (ZR 141), some (ZR order), some (ZI bits), some (ZI 0)] dX10_perform_1 rfl (by decide) rfl rfl ?_
  have L2 : ∀ (fuel : Nat) (x3_2 : Int) (σ_2 : zq_S), (0 ≤ x3_2 ∧ x3_2 ≤ 4) → (zc_T σ_2) → (zc_Fr [(141, 3), (141, 4), (141, 6), (142, -1), (143, -1), (144, -1), (145, -1), (146, -1)] σ σ_2) → (zq_hid (∀ f, 0 ≤ f → f < x3_2 → σ_2 144 f = zu_cv σ order bits f)) → (zq_hid (zw_cs σ_2 141 = zw_cs σ 141)) → (σ_2 141 4 = σ 141 4) → 4 - x3_2 < (fuel : Int) → V 2 [some (ZR 141), some (ZR order), some (ZI bits), some (ZI x3_2)] [] 284 σ_2 := by
    intro fuel
    induction fuel with
    | zero =>
      intro x3_2 σ_2 hx3_2 hσ_2 hFσ_2 hi2_0 hi2_1 hi2_2 hm2
      exfalso; omega
    | succ fuel ih =>
      intro x3_2 σ_2 hx3_2 hσ_2 hFσ_2 hi2_0 hi2_1 hi2_2 hm2
      have ih2 := ih
      show V 2 [some (ZR 141), some (ZR order), some (ZI bits), some (ZI x3_2)] [] 284 σ_2
      refine zr_iload_n (pc := 2) hV dX10_perform_2 rfl rfl ?_
      refine zr_iconst (pc := 3) hV 3 dX10_perform_3 rfl ?_
      refine zr_icmp_gt (pc := 4) hV 25 dX10_perform_4 (by decide) (by omega) ⟨by decide, by decide⟩ (fun c1 => ?_) (fun c1 => ?_)
      · show V 25 [some (ZR 141), some (ZR order), some (ZI bits), some (ZI x3_2)] [] 284 σ_2
        refine zr_aload_n (pc := 25) hV dX10_perform_25 rfl rfl ?_
        refine zr_iconst (pc := 26) hV 0 dX10_perform_26 rfl ?_
        refine zr_putI (pc := 27) hV 6 dX10_perform_27 fX10_59 rfl rfl rfl (zc_k141 zc_s141) (zc_pos zc_s141 rfl) (fun σ27 eσ27 => ?_)
        have hσ27 : zc_T σ27 := zc_u141_6 eσ27 hσ_2 zc_s141 (by omega)
        have hFσ27 := zc_Fw eσ27 zc_s141 rfl hFσ_2
        refine zr_aload_n (pc := 30) hV dX10_perform_30 rfl rfl ?_
        refine zr_aload_n (pc := 31) hV dX10_perform_31 rfl rfl ?_
        refine zr_getI (pc := 32) hV 4 dX10_perform_32 fX10_39 rfl rfl (zc_k141 zc_s141) (zc_pos zc_s141 rfl) ?_
        have t2 := zc_g141_4 hσ27 zc_s141
        have t3 : σ27 141 4 = σ_2 141 4 := by rw [eσ27]; exact zq_up_ne (by omega)
        refine zr_iconst (pc := 35) hV 1 dX10_perform_35 rfl ?_
        refine zr_iadd (pc := 36) hV dX10_perform_36 ?_
        refine zr_bipush (pc := 37) hV 63 dX10_perform_37 (by decide) ?_
        refine zr_iand (pc := 39) hV dX10_perform_39 ?_
        have t4 := zq_and_mask ((σ27 141 4) + 1) 6 63 64 (by decide) (by decide) (by decide)
        refine zr_putI (pc := 40) hV 4 dX10_perform_40 fX10_39 rfl rfl rfl (zc_k141 zc_s141) (zc_pos zc_s141 rfl) (fun σ40 eσ40 => ?_)
        have hσ40 : zc_T σ40 := zc_u141_4 eσ40 hσ27 zc_s141 (by omega)
        have hFσ40 := zc_Fw eσ40 zc_s141 rfl hFσ27
        have c27 : zw_cs σ27 141 = zw_cs σ 141 := (zw_cs_c (σ := σ_2) (fun i => by rw [eσ27, zq_up_ne (by omega)]) (fun i => by rw [eσ27, zq_up_ne (by omega)]) (by rw [eσ27, zq_up_ne (by omega)]) (by rw [eσ27, zq_up_ne (by omega)])).trans hi2_1
        have p27 : σ27 141 4 = σ 141 4 := by rw [eσ27, zq_up_ne (by omega)]; omega
        have hcs : zw_cs σ40 141 = zw_up (zw_cs σ 141) 265 ((σ 141 4 + 1) % 64) := by rw [zw_cs_u4 (b := 141) eσ40, c27, ← p27, show zq_and (σ27 141 4 + 1) 63 = (σ27 141 4 + 1) % 64 by omega]
        have g40 : zq_hid (∀ f, 0 ≤ f → f ≤ 3 → σ40 144 f = zu_cv σ order bits f) := fun f f0 f3 => by rw [eσ40, zq_up_ne (by omega), eσ27, zq_up_ne (by omega)]; exact hi2_0 f f0 (by omega)
        have m40 : σ40 141 0 = σ 141 0 := hFσ40 141 0 (zc_out_at zc_s141 rfl)
        have n40 : σ40 141 6 = 0 := by rw [eσ40, zq_up_ne (by omega), eσ27, zq_up_same]
        have ko := zw_ra_fr (σ := σ) (τ := σ40) (a := order) (fun k i h2 h5 => by obtain rfl | rfl | rfl | rfl : k = 2 ∨ k = 3 ∨ k = 4 ∨ k = 5 := (by omega); exact hFσ40 _ _ (zc_out_ar (zc_p4_2 korder) rfl); exact hFσ40 _ _ (zc_out_ar (zc_p4_3 korder) rfl); exact hFσ40 _ _ (zc_out_ar (zc_p4_4 korder) rfl); exact hFσ40 _ _ (zc_out_ar (zc_p4_5 korder) rfl))
        have ho4 : σ40 order 4 = σ order 4 := hFσ40 order 4 (zc_out_at korder rfl)
        have ho5 : σ40 order 5 = σ order 5 := hFσ40 order 5 (zc_out_at korder rfl)
        have ho6 : σ40 order 6 = σ order 6 := hFσ40 order 6 (zc_out_at korder rfl)
        have oo40 : zq_hid (zw_oo σ40 order) := zw_oo_fr ho4 ho5 ho6 (fun k i h2 h5 => by obtain rfl | rfl | rfl | rfl : k = 2 ∨ k = 3 ∨ k = 4 ∨ k = 5 := (by omega); exact hFσ40 _ _ (zc_out_ar (zc_p4_2 korder) rfl); exact hFσ40 _ _ (zc_out_ar (zc_p4_3 korder) rfl); exact hFσ40 _ _ (zc_out_ar (zc_p4_4 korder) rfl); exact hFσ40 _ _ (zc_out_ar (zc_p4_5 korder) rfl)) q1
        have ok40 : zq_hid (zw_ok (σ40 144) (zw_cs σ40 141) (σ40 141 0)) := by unfold zq_hid; rw [hcs, m40]; exact zw_ok_p q3 ⟨fun f f0 f2 => by rw [g40 f f0 (by omega)]; exact q2.1 f f0 f2, by rw [g40 3 (by decide) (by decide)]; exact q2.2⟩ (by omega)
        refine zr_aload_n (pc := 43) hV dX10_perform_43 rfl rfl ?_
        refine zr_aload_n (pc := 44) hV dX10_perform_44 rfl rfl ?_
        have t5 := zc_g141_0 hσ40 zc_s141
        have t6 : σ40 141 0 = σ27 141 0 := by rw [eσ40]; exact zq_up_ne (by omega)
        have t7 : σ27 141 0 = σ_2 141 0 := by rw [eσ27]; exact zq_up_ne (by omega)
        have t8 : σ_2 141 0 = σ 141 0 := hFσ_2 _ _ (zc_out_at zc_s141 rfl)
        have t9 := zc_g141_6 hσ40 zc_s141
        have t10 : σ40 141 6 = σ27 141 6 := by rw [eσ40]; exact zq_up_ne (by omega)
        have t11 : σ27 141 6 = 0 := by rw [eσ27]; exact zq_up_same _ _ _ _
        refine zr_callVv (pc := 45) hV [ZR 141] (st := []) (c_X3_doOn_W2 (σ := σ40) hσ40 order korder oo40 ok40 n40) dX10_perform_45 mX10_66 (zc_k4 korder) (zc_pos korder rfl) (by decide) (Nat.le_of_ble_eq_true rfl) (Nat.le_refl _) (fun σ45 pσ45 => ?_)
        obtain ⟨hσ45, hfσ45, pσ45, wσ45⟩ := pσ45
        have hFσ45 := zc_Fc hfσ45 rfl hFσ40
        have t12 := zc_g141_0 hσ40 zc_s141
        have t13 : σ40 141 0 = σ27 141 0 := by rw [eσ40]; exact zq_up_ne (by omega)
        have t14 : σ27 141 0 = σ_2 141 0 := by rw [eσ27]; exact zq_up_ne (by omega)
        have t15 : σ_2 141 0 = σ 141 0 := hFσ_2 _ _ (zc_out_at zc_s141 rfl)
        have t16 := zc_g4_4 hσ40 korder
        have t17 : σ40 order 4 = σ27 order 4 := by rw [eσ40]; exact zq_up_ne (zc_dk korder zc_s141 rfl)
        have t18 : σ27 order 4 = σ_2 order 4 := by rw [eσ27]; exact zq_up_ne (zc_dk korder zc_s141 rfl)
        have t19 : σ_2 order 4 = σ order 4 := hFσ_2 _ _ (zc_out_at korder rfl)
        have t20 := zc_g4_5 hσ40 korder
        have t21 : σ40 order 5 = σ27 order 5 := by rw [eσ40]; exact zq_up_ne (zc_dk korder zc_s141 rfl)
        have t22 : σ27 order 5 = σ_2 order 5 := by rw [eσ27]; exact zq_up_ne (zc_dk korder zc_s141 rfl)
        have t23 : σ_2 order 5 = σ order 5 := hFσ_2 _ _ (zc_out_at korder rfl)
        have t24 := zc_g4_6 hσ40 korder
        have t25 : σ40 order 6 = σ27 order 6 := by rw [eσ40]; exact zq_up_ne (zc_dk korder zc_s141 rfl)
        have t26 : σ27 order 6 = σ_2 order 6 := by rw [eσ27]; exact zq_up_ne (zc_dk korder zc_s141 rfl)
        have t27 : σ_2 order 6 = σ order 6 := hFσ_2 _ _ (zc_out_at korder rfl)
        have t28 := zc_g141_6 hσ45 zc_s141
        exact zr_vret (pc := 48) hV dX10_perform_48 rfl rfl ⟨rfl, hσ45, hFσ45, trivial, (show zw_cs σ45 141 = zw_do (σ45 144) (σ 141 0) (zw_ra σ order) 0 (σ order 4) (σ order 5) (σ order 6) (zw_up (zw_cs σ 141) 265 ((σ 141 4 + 1) % 64)) ∧ zw_ok (σ45 144) (zw_cs σ45 141) (σ 141 0) ∧ (∀ i, i < 264 → zw_un (σ45 145) (σ45 146) (σ45 141 6) (zw_cs σ45 141) i = zw_cs σ 141 i) ∧ (∀ j, 0 ≤ j → j < σ45 141 6 → 0 ≤ σ45 145 j ∧ σ45 145 j < 264) ∧ (∀ f, 0 ≤ f → f ≤ 3 → σ45 144 f = zu_cv σ order bits f) from (by have f45 : σ45 144 = σ40 144 := funext (fun i => hfσ45 144 i (zc_out_ar zc_s144 rfl)); have w := wσ45; unfold zq_hid at w; obtain ⟨w1, w2, w3⟩ := w; rw [ko, ho4, ho5, ho6, m40, hcs, ← f45] at w1; rw [m40, ← f45] at w2; exact ⟨w1, w2, fun i hi => (w3.1 i hi).trans (by rw [n40, zw_un_0, hcs]; show (if i = 265 then _ else _) = _; rw [if_neg (by omega)]), fun j j0 j1 => w3.2 (fun j j0 j1 => absurd j1 (by rw [n40]; omega)) j j0 j1, fun f f0 f3 => by rw [f45]; exact g40 f f0 f3⟩))⟩
      · show V 7 [some (ZR 141), some (ZR order), some (ZI bits), some (ZI x3_2)] [] 284 σ_2
        refine zr_aload_n (pc := 7) hV dX10_perform_7 rfl rfl ?_
        refine zr_getR (pc := 8) hV 5 144 dX10_perform_8 fX10_18 rfl rfl (zc_k141 zc_s141) (zc_pos zc_s141 rfl) (zc_g141_5 hσ_2 zc_s141) (by decide) ?_
        refine zr_iload_n (pc := 11) hV dX10_perform_11 rfl rfl ?_
        refine zr_aload_n (pc := 12) hV dX10_perform_12 rfl rfl ?_
        refine zr_iload_n (pc := 13) hV dX10_perform_13 rfl rfl ?_
        refine zr_iload_n (pc := 14) hV dX10_perform_14 rfl rfl ?_
        refine zr_callVp (pc := 15) hV [ZI bits, ZI x3_2] (st := [ZI x3_2, ZR 144]) (c_X3_fieldOf_2 (σ := σ_2) hσ_2 order korder bits x3_2 (by omega) (by omega)) dX10_perform_15 mX10_62 (zc_k4 korder) (zc_pos korder rfl) (by decide) (Nat.le_of_ble_eq_true rfl) (Nat.le_refl _) (fun r15 hr15 pr15 => ?_)
        refine zr_iast (pc := 18) hV dX10_perform_18 (zc_k144 zc_s144) (zc_pos zc_s144 rfl) rfl (by omega) (fun σ18 eσ18 => ?_)
        have hσ18 : zc_T σ18 := zc_ua144 eσ18 hσ_2 zc_s144 (by omega)
        have hFσ18 := zc_Fa eσ18 zc_s144 rfl hFσ_2
        refine zr_iinc (pc := 19) hV [some (ZR 141), some (ZR order), some (ZI bits), some (ZI (x3_2 + 1))] (x3_2 + 1) dX10_perform_19 rfl rfl (by decide) rfl rfl ?_
        refine zr_goto (pc := 22) hV 2 dX10_perform_22 (by decide) ?_
        have t29 := zc_g141_4 hσ18 zc_s141
        have t30 : σ18 141 4 = σ_2 141 4 := by rw [eσ18]; exact zq_up_ne (zc_dk zc_s141 zc_s144 rfl)
        exact ih2 (x3_2 + 1) σ18 (by omega) hσ18 hFσ18 (fun f f0 f1 => if hc : f = x3_2 then (by rw [hc, eσ18, zq_up_same]; have z := pr15.2; rw [hFσ_2 (order + 1) x3_2 (zc_out_ar (zc_p4_1 korder) rfl)] at z; exact z) else (by rw [eσ18, zq_up_ne (by omega)]; exact hi2_0 f f0 (by omega))) ((zw_cs_c (σ := σ_2) (fun i => by rw [eσ18, zq_up_ne (by omega)]) (fun i => by rw [eσ18, zq_up_ne (by omega)]) (by rw [eσ18, zq_up_ne (by omega)]) (by rw [eσ18, zq_up_ne (by omega)])).trans hi2_1) (by rw [eσ18, zq_up_ne (by omega)]; exact hi2_2) (by omega)
  have t31 := zc_g141_4 hσ zc_s141
  exact L2 (4 - (0 : Int) + 1 : Int).toNat 0 σ (by omega) hσ hFσ (fun f f0 f1 => absurd f1 (by omega)) rfl rfl (by omega)
set_option maxHeartbeats 800000 in
theorem c_X10_wordIn_t2 {σ : zq_S} (hσ : zc_T σ) (f : Int) (q0 : 0 ≤ f ∧ f ≤ 3) (q1 : zq_hid (zw_ok (σ 150) (zw_cs σ 147) (σ 147 0))) : zq_C zc_w yX10_wordIn cX10_wordIn 2 (some .int) 0 0 284 284 [ZR 147, ZI f] σ (zq_pp σ (fun r => 0 ≤ r ∧ r ≤ σ 147 0 ∧ r = if f = 3 then σ 150 3 else zw_cs σ 147 (σ 150 f))) := by
  refine zq_C_of (by decide) (Nat.le_refl _) (Nat.le_of_ble_eq_true rfl) [some (ZR 147), some (ZI f)] rfl (fun V hV => ?_)
  have ok := q1
  unfold zq_hid at ok
  have ok2 := ok.2.1
  have ok4 := ok.2.2.2.1
  have ok5 := ok.2.2.2.2.1
  have ok6 := ok.2.2.2.2.2.1.2.1
  show V 0 [some (ZR 147), some (ZI f)] [] 284 σ
  refine zr_iload_n (pc := 0) hV dX10_wordIn_0 rfl rfl ?_
  refine zr_iconst (pc := 1) hV 3 dX10_wordIn_1 rfl ?_
  refine zr_icmp_ne (pc := 2) hV 14 dX10_wordIn_2 (by decide) (by omega) ⟨by decide, by decide⟩ (fun c1 => ?_) (fun c1 => ?_)
  · show V 14 [some (ZR 147), some (ZI f)] [] 284 σ
    refine zr_aload_n (pc := 14) hV dX10_wordIn_14 rfl rfl ?_
    refine zr_getR (pc := 15) hV 1 148 dX10_wordIn_15 fX10_11 rfl rfl (zc_k147 zc_s147) (zc_pos zc_s147 rfl) (zc_g147_1 hσ zc_s147) (by decide) ?_
    refine zr_aload_n (pc := 18) hV dX10_wordIn_18 rfl rfl ?_
    refine zr_getR (pc := 19) hV 5 150 dX10_wordIn_19 fX10_18 rfl rfl (zc_k147 zc_s147) (zc_pos zc_s147 rfl) (zc_g147_5 hσ zc_s147) (by decide) ?_
    refine zr_iload_n (pc := 22) hV dX10_wordIn_22 rfl rfl ?_
    refine zr_iald (pc := 23) hV dX10_wordIn_23 (zc_k150 zc_s150) (zc_pos zc_s150 rfl) rfl (by omega) ?_
    have t2 := zc_ga150 hσ zc_s150 f
    refine zr_bipush (pc := 24) hV 7 dX10_wordIn_24 (by decide) ?_
    refine zr_iand (pc := 26) hV dX10_wordIn_26 ?_
    have t3 := zq_and_mask (σ 150 f) 3 7 8 (by decide) (by decide) (by decide)
    refine zr_iald (pc := 27) hV dX10_wordIn_27 (zc_k148 zc_s148) (zc_pos zc_s148 rfl) rfl (by omega) ?_
    have t4 := zc_ga148 hσ zc_s148 (zq_and (σ 150 f) 7)
    show V 28 [some (ZR 147), some (ZI f)] [ZI (σ 148 (zq_and (σ 150 f) 7))] 284 σ
    exact zr_iret (pc := 28) hV dX10_wordIn_28 rfl rfl ⟨rfl, _, rfl, (by omega), (by have f1 := ok.1 f (by omega) (by omega); have ee : zq_and (σ 150 f) 7 = σ 150 f := (by omega); have z := ok.2.2.1 (σ 150 f) f1.1 (by omega); rw [zw_cs_r (a := 148) rfl (by omega)] at z; rw [ee]; exact ⟨z.1, z.2, by rw [if_neg (by omega), zw_cs_r (a := 148) rfl (by omega)]⟩)⟩
  · show V 5 [some (ZR 147), some (ZI f)] [] 284 σ
    refine zr_aload_n (pc := 5) hV dX10_wordIn_5 rfl rfl ?_
    refine zr_getR (pc := 6) hV 5 150 dX10_wordIn_6 fX10_18 rfl rfl (zc_k147 zc_s147) (zc_pos zc_s147 rfl) (zc_g147_5 hσ zc_s147) (by decide) ?_
    refine zr_iconst (pc := 9) hV 3 dX10_wordIn_9 rfl ?_
    refine zr_iald (pc := 10) hV dX10_wordIn_10 (zc_k150 zc_s150) (zc_pos zc_s150 rfl) rfl (by omega) ?_
    have t5 := zc_ga150 hσ zc_s150 3
    refine zr_goto (pc := 11) hV 28 dX10_wordIn_11 (by decide) ?_
    show V 28 [some (ZR 147), some (ZI f)] [ZI (σ 150 3)] 284 σ
    exact zr_iret (pc := 28) hV dX10_wordIn_28 rfl rfl ⟨rfl, _, rfl, (by omega), ⟨by omega, by omega, by rw [if_pos (by omega)]⟩⟩
set_option maxHeartbeats 800000 in
theorem c_X10_wordOf_t2 {σ : zq_S} (hσ : zc_T σ) (operand : Int) (q0 : 0 ≤ operand ∧ operand ≤ 271) (q1 : zc_op operand) (q2 : zq_hid (zw_ok (σ 150) (zw_cs σ 147) (σ 147 0))) : zq_C zc_w yX10_wordOf cX10_wordOf 2 (some .int) 1 21 284 284 [ZR 147, ZI operand] σ (zq_pp σ (fun r => 0 ≤ r ∧ r ≤ σ 147 0 ∧ r = zw_va (σ 150) (zw_cs σ 147) (σ 147 0) (zt_rc operand) (zt_ru operand))) := by
  refine zq_C_of (by decide) (Nat.le_refl _) (Nat.le_of_ble_eq_true rfl) [some (ZR 147), some (ZI operand)] rfl (fun V hV => ?_)
  have uo : operand ≤ 9 ∨ 16 ≤ operand := q1
  have ok := q2
  unfold zq_hid at ok
  have ok2 := ok.2.1
  have ok4 := ok.2.2.2.1
  have ok5 := ok.2.2.2.2.1
  have ok6 := ok.2.2.2.2.2.1.2.1
  show V 0 [some (ZR 147), some (ZI operand)] [] 284 σ
  refine zr_iload_n (pc := 0) hV dX10_wordOf_0 rfl rfl ?_
  refine zr_bipush (pc := 1) hV 16 dX10_wordOf_1 (by decide) ?_
  refine zr_icmp_lt (pc := 3) hV 16 dX10_wordOf_3 (by decide) (by omega) ⟨by decide, by decide⟩ (fun c1 => ?_) (fun c1 => ?_)
  · show V 16 [some (ZR 147), some (ZI operand)] [] 284 σ
    refine zr_iload_n (pc := 16) hV dX10_wordOf_16 rfl rfl ?_
    refine zr_bipush (pc := 17) hV 6 dX10_wordOf_17 (by decide) ?_
    refine zr_icmp_lt (pc := 19) hV 40 dX10_wordOf_19 (by decide) (by omega) ⟨by decide, by decide⟩ (fun c2 => ?_) (fun c2 => ?_)
    · show V 40 [some (ZR 147), some (ZI operand)] [] 284 σ
      refine zr_iload_n (pc := 40) hV dX10_wordOf_40 rfl rfl ?_
      by_cases c3 : operand = 4
      · refine zr_eqI (V := V) 4 c3 ?_
        refine zr_lookup (pc := 41) hV 68 dX10_wordOf_41 ⟨by decide, by decide⟩ (by decide) rfl (by decide) ?_
        show V 68 [some (ZR 147), some (ZI operand)] [] 284 σ
        refine zr_aload_n (pc := 68) hV dX10_wordOf_68 rfl rfl ?_
        refine zr_getI (pc := 69) hV 3 dX10_wordOf_69 fX10_35 rfl rfl (zc_k147 zc_s147) (zc_pos zc_s147 rfl) ?_
        have t4 := zc_g147_3 hσ zc_s147
        exact zr_iret (pc := 72) hV dX10_wordOf_72 rfl rfl ⟨rfl, _, rfl, (by omega), (by have e : σ 147 3 = zw_va (σ 150) (zw_cs σ 147) (σ 147 0) (zt_rc operand) (zt_ru operand) := (by rw [(zt_rc_b operand).2 (by omega), zw_va_4 (by omega), zw_cs_z]); have vb := zw_va_b (n := zt_ru operand) ok (w := zt_rc operand) (zw_rcb (by omega) uo); rw [← e] at vb; exact ⟨vb.1, vb.2, e⟩)⟩
      by_cases c5 : operand = 5
      · refine zr_eqI (V := V) 5 c5 ?_
        refine zr_lookup (pc := 41) hV 73 dX10_wordOf_41 ⟨by decide, by decide⟩ (by decide) rfl (by decide) ?_
        show V 73 [some (ZR 147), some (ZI operand)] [] 284 σ
        refine zr_aload_n (pc := 73) hV dX10_wordOf_73 rfl rfl ?_
        refine zr_getI (pc := 74) hV 4 dX10_wordOf_74 fX10_39 rfl rfl (zc_k147 zc_s147) (zc_pos zc_s147 rfl) ?_
        have t6 := zc_g147_4 hσ zc_s147
        refine zr_aload_n (pc := 77) hV dX10_wordOf_77 rfl rfl ?_
        refine zr_getI (pc := 78) hV 0 dX10_wordOf_78 fX10_48 rfl rfl (zc_k147 zc_s147) (zc_pos zc_s147 rfl) ?_
        have t7 := zc_g147_0 hσ zc_s147
        refine zr_iand (pc := 81) hV dX10_wordOf_81 ?_
        have t8 := zq_and_nnR (x := σ 147 4) (y := σ 147 0) (by omega)
        exact zr_iret (pc := 82) hV dX10_wordOf_82 rfl rfl ⟨rfl, _, rfl, (by omega), (by have e : zq_and (σ 147 4) (σ 147 0) = zw_va (σ 150) (zw_cs σ 147) (σ 147 0) (zt_rc operand) (zt_ru operand) := (by rw [(zt_rc_b operand).2 (by omega), zw_va_5 (by omega), zw_cs_p]); have vb := zw_va_b (n := zt_ru operand) ok (w := zt_rc operand) (zw_rcb (by omega) uo); rw [← e] at vb; exact ⟨vb.1, vb.2, e⟩)⟩
      refine zr_lookup (pc := 41) (off := 42) hV 83 dX10_wordOf_41 (by omega) (by decide) (by simp only [Op.lookupswitch.offset]; repeat (split <;> try omega)) (by decide) ?_
      show V 83 [some (ZR 147), some (ZI operand)] [] 284 σ
      refine zr_aload_n (pc := 83) hV dX10_wordOf_83 rfl rfl ?_
      refine zr_iload_n (pc := 84) hV dX10_wordOf_84 rfl rfl ?_
      have t9 := zc_g147_0 hσ zc_s147
      refine zr_callVp (pc := 85) hV [ZI operand] (st := []) (c_X10_wordIn_t2 (σ := σ) hσ operand (by omega) q2) dX10_wordOf_85 mX10_51 (zc_k147 zc_s147) (zc_pos zc_s147 rfl) (by decide) (Nat.le_of_ble_eq_true rfl) (Nat.le_refl _) (fun r85 hr85 pr85 => ?_)
      have t10 := zc_g147_0 hσ zc_s147
      have t11 := zc_ga150 hσ zc_s150 3
      exact zr_iret (pc := 88) hV dX10_wordOf_88 rfl rfl ⟨rfl, _, rfl, (by omega), (by have e : r85 = zw_va (σ 150) (zw_cs σ 147) (σ 147 0) (zt_rc operand) (zt_ru operand) := (by rw [(zt_rc_b operand).2 (by omega)]; have z := pr85.2.2; by_cases c : operand = 3; (rw [zw_va_3 c]; rw [if_pos c] at z; exact z); (rw [zw_va_0 (by omega)]; rw [if_neg c] at z; exact z)); have vb := zw_va_b (n := zt_ru operand) ok (w := zt_rc operand) (zw_rcb (by omega) uo); rw [← e] at vb; exact ⟨vb.1, vb.2, e⟩)⟩
    · show V 22 [some (ZR 147), some (ZI operand)] [] 284 σ
      refine zr_aload_n (pc := 22) hV dX10_wordOf_22 rfl rfl ?_
      refine zr_getR (pc := 23) hV 2 149 dX10_wordOf_23 fX10_15 rfl rfl (zc_k147 zc_s147) (zc_pos zc_s147 rfl) (zc_g147_2 hσ zc_s147) (by decide) ?_
      refine zr_aload_n (pc := 26) hV dX10_wordOf_26 rfl rfl ?_
      refine zr_iload_n (pc := 27) hV dX10_wordOf_27 rfl rfl ?_
      refine zr_bipush (pc := 28) hV 6 dX10_wordOf_28 (by decide) ?_
      refine zr_isub (pc := 30) hV dX10_wordOf_30 ?_
      have t12 := zc_g147_0 hσ zc_s147
      refine zr_callVp (pc := 31) hV [ZI (operand - 6)] (st := [ZR 149]) (c_X10_wordIn_t2 (σ := σ) hσ (operand - 6) (by omega) q2) dX10_wordOf_31 mX10_51 (zc_k147 zc_s147) (zc_pos zc_s147 rfl) (by decide) (Nat.le_of_ble_eq_true rfl) (Nat.le_refl _) (fun r31 hr31 pr31 => ?_)
      have t13 := zc_g147_0 hσ zc_s147
      have t14 := zc_ga150 hσ zc_s150 3
      refine zr_sipush (pc := 34) hV 255 dX10_wordOf_34 (by decide) ?_
      refine zr_iand (pc := 37) hV dX10_wordOf_37 ?_
      have t15 := zq_and_mask r31 8 255 256 (by decide) (by decide) (by decide)
      refine zr_iald (pc := 38) hV dX10_wordOf_38 (zc_k149 zc_s149) (zc_pos zc_s149 rfl) rfl (by omega) ?_
      have t16 := zc_ga149 hσ zc_s149 (zq_and r31 255)
      exact zr_iret (pc := 39) hV dX10_wordOf_39 rfl rfl ⟨rfl, _, rfl, (by omega), (by have e : σ 149 (zq_and r31 255) = zw_va (σ 150) (zw_cs σ 147) (σ 147 0) (zt_rc operand) (zt_ru operand) := (by have z := pr31.2.2.trans zw_adw; rw [(zt_rc_b operand).2 (by omega), zw_va_m (by omega), ← z, zw_cs_m (a := 149) rfl (by omega) (by omega), show 8 + r31 - 8 = r31 by omega, show zq_and r31 255 = r31 by omega]); have vb := zw_va_b (n := zt_ru operand) ok (w := zt_rc operand) (zw_rcb (by omega) uo); rw [← e] at vb; exact ⟨vb.1, vb.2, e⟩)⟩
  · show V 6 [some (ZR 147), some (ZI operand)] [] 284 σ
    refine zr_iload_n (pc := 6) hV dX10_wordOf_6 rfl rfl ?_
    refine zr_bipush (pc := 7) hV 16 dX10_wordOf_7 (by decide) ?_
    refine zr_isub (pc := 9) hV dX10_wordOf_9 ?_
    refine zr_aload_n (pc := 10) hV dX10_wordOf_10 rfl rfl ?_
    refine zr_getI (pc := 11) hV 0 dX10_wordOf_11 fX10_48 rfl rfl (zc_k147 zc_s147) (zc_pos zc_s147 rfl) ?_
    have t17 := zc_g147_0 hσ zc_s147
    refine zr_iand (pc := 14) hV dX10_wordOf_14 ?_
    have t18 := zq_and_nnR (x := operand - 16) (y := σ 147 0) (by omega)
    exact zr_iret (pc := 15) hV dX10_wordOf_15 rfl rfl ⟨rfl, _, rfl, (by omega), (by have e : zq_and (operand - 16) (σ 147 0) = zw_va (σ 150) (zw_cs σ 147) (σ 147 0) (zt_rc operand) (zt_ru operand) := (by rw [(zt_rc_b operand).1 (by omega), zw_va_10 rfl]; unfold zt_ru; rw [if_pos (by omega)]); have vb := zw_va_b (n := zt_ru operand) ok (w := zt_rc operand) (zw_rcb (by omega) uo); rw [← e] at vb; exact ⟨vb.1, vb.2, e⟩)⟩
set_option maxHeartbeats 800000 in
theorem c_X10_noteChange_t2 {σ : zq_S} (hσ : zc_T σ) (where_ : Int) (was : Int) (q0 : zq_in where_) (q1 : zq_in was) (q2 : σ 147 6 ≤ 2) : zq_C zc_w yX10_noteChange cX10_noteChange 3 (none) 0 0 284 284 [ZR 147, ZI where_, ZI was] σ (zq_pv (fun τ => zc_T τ ∧ zc_Fr [(147, 6), (151, -1), (152, -1)] σ τ ∧ (True) ∧ zq_hid (τ 147 6 = σ 147 6 + 1 ∧ (∀ i, τ 151 i = if i = σ 147 6 then where_ else σ 151 i) ∧ (∀ i, τ 152 i = if i = σ 147 6 then was else σ 152 i)))) := by
  refine zq_C_of (by decide) (Nat.le_refl _) (Nat.le_of_ble_eq_true rfl) [some (ZR 147), some (ZI where_), some (ZI was)] rfl (fun V hV => ?_)
  have hFσ := zc_Fr_rf [(147, 6), (151, -1), (152, -1)] σ
  show V 0 [some (ZR 147), some (ZI where_), some (ZI was)] [] 284 σ
  refine zr_aload_n (pc := 0) hV dX10_noteChange_0 rfl rfl ?_
  refine zr_getI (pc := 1) hV 6 dX10_noteChange_1 fX10_59 rfl rfl (zc_k147 zc_s147) (zc_pos zc_s147 rfl) ?_
  have t1 := zc_g147_6 hσ zc_s147
  refine zr_iconst (pc := 4) hV 3 dX10_noteChange_4 rfl ?_
  refine zr_icmp_ge (pc := 5) hV 38 dX10_noteChange_5 (by decide) (by omega) ⟨by decide, by decide⟩ (fun c2 => ?_) (fun c2 => ?_)
  · show V 38 [some (ZR 147), some (ZI where_), some (ZI was)] [] 284 σ
    have t3 := zc_g147_6 hσ zc_s147
    exact zr_vret (pc := 38) hV dX10_noteChange_38 rfl rfl ⟨rfl, hσ, hFσ, trivial, (show σ 147 6 = σ 147 6 + 1 ∧ (∀ i, σ 151 i = if i = σ 147 6 then where_ else σ 151 i) ∧ (∀ i, σ 152 i = if i = σ 147 6 then was else σ 152 i) from (by exfalso; omega))⟩
  · show V 8 [some (ZR 147), some (ZI where_), some (ZI was)] [] 284 σ
    refine zr_aload_n (pc := 8) hV dX10_noteChange_8 rfl rfl ?_
    refine zr_getR (pc := 9) hV 7 151 dX10_noteChange_9 fX10_23 rfl rfl (zc_k147 zc_s147) (zc_pos zc_s147 rfl) (zc_g147_7 hσ zc_s147) (by decide) ?_
    refine zr_aload_n (pc := 12) hV dX10_noteChange_12 rfl rfl ?_
    refine zr_getI (pc := 13) hV 6 dX10_noteChange_13 fX10_59 rfl rfl (zc_k147 zc_s147) (zc_pos zc_s147 rfl) ?_
    have t4 := zc_g147_6 hσ zc_s147
    refine zr_iload_n (pc := 16) hV dX10_noteChange_16 rfl rfl ?_
    refine zr_iast (pc := 17) hV dX10_noteChange_17 (zc_k151 zc_s151) (zc_pos zc_s151 rfl) rfl (by omega) (fun σ17 eσ17 => ?_)
    have hσ17 : zc_T σ17 := zc_ua151 eσ17 hσ zc_s151 (by omega)
    have hFσ17 := zc_Fa eσ17 zc_s151 rfl hFσ
    refine zr_aload_n (pc := 18) hV dX10_noteChange_18 rfl rfl ?_
    refine zr_getR (pc := 19) hV 8 152 dX10_noteChange_19 fX10_26 rfl rfl (zc_k147 zc_s147) (zc_pos zc_s147 rfl) (zc_g147_8 hσ17 zc_s147) (by decide) ?_
    refine zr_aload_n (pc := 22) hV dX10_noteChange_22 rfl rfl ?_
    refine zr_getI (pc := 23) hV 6 dX10_noteChange_23 fX10_59 rfl rfl (zc_k147 zc_s147) (zc_pos zc_s147 rfl) ?_
    have t5 := zc_g147_6 hσ17 zc_s147
    have t6 : σ17 147 6 = σ 147 6 := by rw [eσ17]; exact zq_up_ne (zc_dk zc_s147 zc_s151 rfl)
    refine zr_iload_n (pc := 26) hV dX10_noteChange_26 rfl rfl ?_
    refine zr_iast (pc := 27) hV dX10_noteChange_27 (zc_k152 zc_s152) (zc_pos zc_s152 rfl) rfl (by omega) (fun σ27 eσ27 => ?_)
    have hσ27 : zc_T σ27 := zc_ua152 eσ27 hσ17 zc_s152 (by omega)
    have hFσ27 := zc_Fa eσ27 zc_s152 rfl hFσ17
    refine zr_aload_n (pc := 28) hV dX10_noteChange_28 rfl rfl ?_
    refine zr_dup (pc := 29) hV dX10_noteChange_29 (fun _ => rfl) ?_
    refine zr_getI (pc := 30) hV 6 dX10_noteChange_30 fX10_59 rfl rfl (zc_k147 zc_s147) (zc_pos zc_s147 rfl) ?_
    have t7 := zc_g147_6 hσ27 zc_s147
    have t8 : σ27 147 6 = σ17 147 6 := by rw [eσ27]; exact zq_up_ne (zc_dk zc_s147 zc_s152 rfl)
    have t9 : σ17 147 6 = σ 147 6 := by rw [eσ17]; exact zq_up_ne (zc_dk zc_s147 zc_s151 rfl)
    refine zr_iconst (pc := 33) hV 1 dX10_noteChange_33 rfl ?_
    refine zr_iadd (pc := 34) hV dX10_noteChange_34 ?_
    refine zr_putI (pc := 35) hV 6 dX10_noteChange_35 fX10_59 rfl rfl rfl (zc_k147 zc_s147) (zc_pos zc_s147 rfl) (fun σ35 eσ35 => ?_)
    have hσ35 : zc_T σ35 := zc_u147_6 eσ35 hσ27 zc_s147 (by omega)
    have hFσ35 := zc_Fw eσ35 zc_s147 rfl hFσ27
    show V 38 [some (ZR 147), some (ZI where_), some (ZI was)] [] 284 σ35
    have t10 := zc_g147_6 hσ35 zc_s147
    have t11 : σ35 147 6 = (σ27 147 6) + 1 := by rw [eσ35]; exact zq_up_same _ _ _ _
    exact zr_vret (pc := 38) hV dX10_noteChange_38 rfl rfl ⟨rfl, hσ35, hFσ35, trivial, (show σ35 147 6 = σ 147 6 + 1 ∧ (∀ i, σ35 151 i = if i = σ 147 6 then where_ else σ 151 i) ∧ (∀ i, σ35 152 i = if i = σ 147 6 then was else σ 152 i) from ⟨by rw [eσ35, zq_up_same, eσ27, zq_up_ne (by omega), eσ17, zq_up_ne (by omega)], fun i => if hc : i = σ 147 6 then (by rw [if_pos hc, hc, eσ35, zq_up_ne (by omega), eσ27, zq_up_ne (by omega), eσ17, zq_up_same]) else (by rw [if_neg hc, eσ35, zq_up_ne (by omega), eσ27, zq_up_ne (by omega), eσ17, zq_up_ne (by omega)]), fun i => (by have k17 := show σ17 147 6 = σ 147 6 from (by rw [eσ17, zq_up_ne (by omega)]); by_cases hc : i = σ 147 6; (rw [if_pos hc, hc, eσ35, zq_up_ne (by omega), eσ27, k17, zq_up_same]); (rw [if_neg hc, eσ35, zq_up_ne (by omega), eσ27, k17, zq_up_ne (by omega), eσ17, zq_up_ne (by omega)]))⟩)⟩
set_option maxHeartbeats 800000 in
theorem c_X10_become_t2 {σ : zq_S} (hσ : zc_T σ) (target : Int) (word : Int) (q0 : 0 ≤ target ∧ target ≤ 9) (q1 : zq_in word) (q2 : target ≠ 3) (q3 : zq_hid (zw_ok (σ 150) (zw_cs σ 147) (σ 147 0))) (q4 : σ 147 6 ≤ 2) (q5 : 0 ≤ word ∧ word ≤ σ 147 0) : zq_C zc_w yX10_become cX10_become 4 (none) 1 22 284 284 [ZR 147, ZI target, ZI word] σ (zq_pv (fun τ => zc_T τ ∧ zc_Fr [(147, 3), (147, 4), (147, 6), (148, -1), (149, -1), (151, -1), (152, -1)] σ τ ∧ (True) ∧ zq_hid (zw_cs τ 147 = zw_up (zw_cs σ 147) (zw_ix (σ 150) (zw_cs σ 147) target) (zw_nv target word) ∧ zw_lg σ τ 147 ∧ σ 147 6 ≤ τ 147 6 ∧ τ 147 6 ≤ σ 147 6 + 1))) := by
  refine zq_C_of (by decide) (Nat.le_refl _) (Nat.le_of_ble_eq_true rfl) [some (ZR 147), some (ZI target), some (ZI word), none] rfl (fun V hV => ?_)
  have hFσ := zc_Fr_rf [(147, 3), (147, 4), (147, 6), (148, -1), (149, -1), (151, -1), (152, -1)] σ
  have ok := q3
  unfold zq_hid at ok
  have ok2 := ok.2.1
  have ok4 := ok.2.2.2.1
  have ok5 := ok.2.2.2.2.1
  have ok6 := ok.2.2.2.2.2.1.2.1
  show V 0 [some (ZR 147), some (ZI target), some (ZI word), none] [] 284 σ
  refine zr_iload_n (pc := 0) hV dX10_become_0 rfl rfl ?_
  refine zr_iconst (pc := 1) hV 4 dX10_become_1 rfl ?_
  refine zr_icmp_ne (pc := 2) hV 21 dX10_become_2 (by decide) (by omega) ⟨by decide, by decide⟩ (fun c1 => ?_) (fun c1 => ?_)
  · show V 21 [some (ZR 147), some (ZI target), some (ZI word), none] [] 284 σ
    refine zr_iload_n (pc := 21) hV dX10_become_21 rfl rfl ?_
    refine zr_iconst (pc := 22) hV 5 dX10_become_22 rfl ?_
    refine zr_icmp_ne (pc := 23) hV 37 dX10_become_23 (by decide) (by omega) ⟨by decide, by decide⟩ (fun c2 => ?_) (fun c2 => ?_)
    · show V 37 [some (ZR 147), some (ZI target), some (ZI word), none] [] 284 σ
      refine zr_iload_n (pc := 37) hV dX10_become_37 rfl rfl ?_
      refine zr_bipush (pc := 38) hV 6 dX10_become_38 (by decide) ?_
      refine zr_icmp_lt (pc := 40) hV 80 dX10_become_40 (by decide) (by omega) ⟨by decide, by decide⟩ (fun c3 => ?_) (fun c3 => ?_)
      · show V 80 [some (ZR 147), some (ZI target), some (ZI word), none] [] 284 σ
        refine zr_aload_n (pc := 80) hV dX10_become_80 rfl rfl ?_
        refine zr_getR (pc := 81) hV 5 150 dX10_become_81 fX10_18 rfl rfl (zc_k147 zc_s147) (zc_pos zc_s147 rfl) (zc_g147_5 hσ zc_s147) (by decide) ?_
        refine zr_iload_n (pc := 84) hV dX10_become_84 rfl rfl ?_
        refine zr_iald (pc := 85) hV dX10_become_85 (zc_k150 zc_s150) (zc_pos zc_s150 rfl) rfl (by omega) ?_
        have t4 := zc_ga150 hσ zc_s150 target
        refine zr_bipush (pc := 86) hV 7 dX10_become_86 (by decide) ?_
        refine zr_iand (pc := 88) hV dX10_become_88 ?_
        have t5 := zq_and_mask (σ 150 target) 3 7 8 (by decide) (by decide) (by decide)
        refine zr_istore_n (pc := 89) hV [some (ZR 147), some (ZI target), some (ZI word), some (ZI (zq_and (σ 150 target) 7))] dX10_become_89 rfl (by decide) rfl rfl ?_
        refine zr_aload_n (pc := 90) hV dX10_become_90 rfl rfl ?_
        refine zr_iload_n (pc := 91) hV dX10_become_91 rfl rfl ?_
        refine zr_aload_n (pc := 92) hV dX10_become_92 rfl rfl ?_
        refine zr_getR (pc := 93) hV 1 148 dX10_become_93 fX10_11 rfl rfl (zc_k147 zc_s147) (zc_pos zc_s147 rfl) (zc_g147_1 hσ zc_s147) (by decide) ?_
        refine zr_iload_n (pc := 96) hV dX10_become_96 rfl rfl ?_
        refine zr_iald (pc := 97) hV dX10_become_97 (zc_k148 zc_s148) (zc_pos zc_s148 rfl) rfl (by omega) ?_
        have t6 := zc_ga148 hσ zc_s148 (zq_and (σ 150 target) 7)
        have t7 := zc_g147_6 hσ zc_s147
        refine zr_callVv (pc := 98) hV [ZI (zq_and (σ 150 target) 7), ZI (σ 148 (zq_and (σ 150 target) 7))] (st := []) (c_X10_noteChange_t2 (σ := σ) hσ (zq_and (σ 150 target) 7) (σ 148 (zq_and (σ 150 target) 7)) (by omega) (by omega) (by omega)) dX10_become_98 mX10_55 (zc_k147 zc_s147) (zc_pos zc_s147 rfl) (by decide) (Nat.le_of_ble_eq_true rfl) (Nat.le_refl _) (fun σ98 pσ98 => ?_)
        obtain ⟨hσ98, hfσ98, pσ98, wσ98⟩ := pσ98
        have hFσ98 := zc_Fc hfσ98 rfl hFσ
        have t8 := zc_g147_6 hσ zc_s147
        refine zr_aload_n (pc := 101) hV dX10_become_101 rfl rfl ?_
        refine zr_getR (pc := 102) hV 1 148 dX10_become_102 fX10_11 rfl rfl (zc_k147 zc_s147) (zc_pos zc_s147 rfl) (zc_g147_1 hσ98 zc_s147) (by decide) ?_
        refine zr_iload_n (pc := 105) hV dX10_become_105 rfl rfl ?_
        refine zr_iload_n (pc := 106) hV dX10_become_106 rfl rfl ?_
        refine zr_iast (pc := 107) hV dX10_become_107 (zc_k148 zc_s148) (zc_pos zc_s148 rfl) rfl (by omega) (fun σ107 eσ107 => ?_)
        have hσ107 : zc_T σ107 := zc_ua148 eσ107 hσ98 zc_s148 (by omega)
        have hFσ107 := zc_Fa eσ107 zc_s148 rfl hFσ98
        show V 108 [some (ZR 147), some (ZI target), some (ZI word), some (ZI (zq_and (σ 150 target) 7))] [] 284 σ107
        have t9 := zc_g147_6 hσ107 zc_s147
        have t10 : σ107 147 6 = σ98 147 6 := by rw [eσ107]; exact zq_up_ne (zc_dk zc_s147 zc_s148 rfl)
        exact zr_vret (pc := 108) hV dX10_become_108 rfl rfl ⟨rfl, hσ107, hFσ107, trivial, (show zw_cs σ107 147 = zw_up (zw_cs σ 147) (zw_ix (σ 150) (zw_cs σ 147) target) (zw_nv target word) ∧ zw_lg σ σ107 147 ∧ σ 147 6 ≤ σ107 147 6 ∧ σ107 147 6 ≤ σ 147 6 + 1 from (by have w := wσ98; unfold zq_hid at w; have hc0 : zw_cs σ98 147 = zw_cs σ 147 := zw_cs_c (fun i => hfσ98 148 i (zc_out_ar zc_s148 rfl)) (fun i => hfσ98 149 i (zc_out_ar zc_s149 rfl)) (hfσ98 147 3 (zc_out_at zc_s147 rfl)) (hfσ98 147 4 (zc_out_at zc_s147 rfl)); have hcs := zw_cs_ur (b := 147) eσ107 rfl (by omega); rw [hc0] at hcs; have ix : zw_ix (σ 150) (zw_cs σ 147) target = zq_and (σ 150 target) 7 := (by have f1 := ok.1 target (by omega) (by omega); unfold zw_ix; rw [if_pos (by omega)]; omega); have e6 : σ107 147 6 = σ 147 6 + 1 := (by rw [eσ107, zq_up_ne (by omega)]; exact w.1); refine ⟨?_, (zw_lg_p (b := 147) (x := zq_and (σ 150 target) 7) (v := word) (by omega) (by rw [eσ107, zq_up_ne (by omega)]; exact w.1) (fun i => by rw [eσ107, zq_up_ne (by omega)]; exact w.2.1 i) (fun i => by rw [eσ107, zq_up_ne (by omega)]; rw [zw_cs_r (a := 148) rfl (by omega)]; exact w.2.2 i) hcs (by omega)), by omega, by omega⟩; rw [hcs, ix]; unfold zw_nv; rw [if_neg (by omega), if_neg (by omega)]))⟩
      · show V 43 [some (ZR 147), some (ZI target), some (ZI word), none] [] 284 σ
        refine zr_aload_n (pc := 43) hV dX10_become_43 rfl rfl ?_
        refine zr_iload_n (pc := 44) hV dX10_become_44 rfl rfl ?_
        refine zr_bipush (pc := 45) hV 6 dX10_become_45 (by decide) ?_
        refine zr_isub (pc := 47) hV dX10_become_47 ?_
        have t11 := zc_g147_0 hσ zc_s147
        refine zr_callVp (pc := 48) hV [ZI (target - 6)] (st := []) (c_X10_wordIn_t2 (σ := σ) hσ (target - 6) (by omega) q3) dX10_become_48 mX10_51 (zc_k147 zc_s147) (zc_pos zc_s147 rfl) (by decide) (Nat.le_of_ble_eq_true rfl) (Nat.le_refl _) (fun r48 hr48 pr48 => ?_)
        have t12 := zc_g147_0 hσ zc_s147
        have t13 := zc_ga150 hσ zc_s150 3
        refine zr_sipush (pc := 51) hV 255 dX10_become_51 (by decide) ?_
        refine zr_iand (pc := 54) hV dX10_become_54 ?_
        have t14 := zq_and_mask r48 8 255 256 (by decide) (by decide) (by decide)
        refine zr_istore_n (pc := 55) hV [some (ZR 147), some (ZI target), some (ZI word), some (ZI (zq_and r48 255))] dX10_become_55 rfl (by decide) rfl rfl ?_
        refine zr_aload_n (pc := 56) hV dX10_become_56 rfl rfl ?_
        refine zr_bipush (pc := 57) hV 8 dX10_become_57 (by decide) ?_
        refine zr_iload_n (pc := 59) hV dX10_become_59 rfl rfl ?_
        refine zr_iadd (pc := 60) hV dX10_become_60 ?_
        refine zr_aload_n (pc := 61) hV dX10_become_61 rfl rfl ?_
        refine zr_getR (pc := 62) hV 2 149 dX10_become_62 fX10_15 rfl rfl (zc_k147 zc_s147) (zc_pos zc_s147 rfl) (zc_g147_2 hσ zc_s147) (by decide) ?_
        refine zr_iload_n (pc := 65) hV dX10_become_65 rfl rfl ?_
        refine zr_iald (pc := 66) hV dX10_become_66 (zc_k149 zc_s149) (zc_pos zc_s149 rfl) rfl (by omega) ?_
        have t15 := zc_ga149 hσ zc_s149 (zq_and r48 255)
        have t16 := zc_g147_6 hσ zc_s147
        refine zr_callVv (pc := 67) hV [ZI (8 + (zq_and r48 255)), ZI (σ 149 (zq_and r48 255))] (st := []) (c_X10_noteChange_t2 (σ := σ) hσ (8 + (zq_and r48 255)) (σ 149 (zq_and r48 255)) (by omega) (by omega) (by omega)) dX10_become_67 mX10_55 (zc_k147 zc_s147) (zc_pos zc_s147 rfl) (by decide) (Nat.le_of_ble_eq_true rfl) (Nat.le_refl _) (fun σ67 pσ67 => ?_)
        obtain ⟨hσ67, hfσ67, pσ67, wσ67⟩ := pσ67
        have hFσ67 := zc_Fc hfσ67 rfl hFσ
        have t17 := zc_g147_6 hσ zc_s147
        refine zr_aload_n (pc := 70) hV dX10_become_70 rfl rfl ?_
        refine zr_getR (pc := 71) hV 2 149 dX10_become_71 fX10_15 rfl rfl (zc_k147 zc_s147) (zc_pos zc_s147 rfl) (zc_g147_2 hσ67 zc_s147) (by decide) ?_
        refine zr_iload_n (pc := 74) hV dX10_become_74 rfl rfl ?_
        refine zr_iload_n (pc := 75) hV dX10_become_75 rfl rfl ?_
        refine zr_iast (pc := 76) hV dX10_become_76 (zc_k149 zc_s149) (zc_pos zc_s149 rfl) rfl (by omega) (fun σ76 eσ76 => ?_)
        have hσ76 : zc_T σ76 := zc_ua149 eσ76 hσ67 zc_s149 (by omega)
        have hFσ76 := zc_Fa eσ76 zc_s149 rfl hFσ67
        refine zr_goto (pc := 77) hV 108 dX10_become_77 (by decide) ?_
        show V 108 [some (ZR 147), some (ZI target), some (ZI word), some (ZI (zq_and r48 255))] [] 284 σ76
        have t18 := zc_g147_6 hσ76 zc_s147
        have t19 : σ76 147 6 = σ67 147 6 := by rw [eσ76]; exact zq_up_ne (zc_dk zc_s147 zc_s149 rfl)
        exact zr_vret (pc := 108) hV dX10_become_108 rfl rfl ⟨rfl, hσ76, hFσ76, trivial, (show zw_cs σ76 147 = zw_up (zw_cs σ 147) (zw_ix (σ 150) (zw_cs σ 147) target) (zw_nv target word) ∧ zw_lg σ σ76 147 ∧ σ 147 6 ≤ σ76 147 6 ∧ σ76 147 6 ≤ σ 147 6 + 1 from (by have w := wσ67; unfold zq_hid at w; have hc0 : zw_cs σ67 147 = zw_cs σ 147 := zw_cs_c (fun i => hfσ67 148 i (zc_out_ar zc_s148 rfl)) (fun i => hfσ67 149 i (zc_out_ar zc_s149 rfl)) (hfσ67 147 3 (zc_out_at zc_s147 rfl)) (hfσ67 147 4 (zc_out_at zc_s147 rfl)); have hcs := zw_cs_um (b := 147) eσ76 rfl (by omega) (by omega); rw [hc0] at hcs; have ix : zw_ix (σ 150) (zw_cs σ 147) target = 8 + zq_and r48 255 := (by have z := pr48.2.2.trans zw_adw; unfold zw_ix; rw [if_neg (by omega), if_neg (by omega), if_neg (by omega), ← z, show zq_and r48 255 = r48 by omega]); have e6 : σ76 147 6 = σ 147 6 + 1 := (by rw [eσ76, zq_up_ne (by omega)]; exact w.1); refine ⟨?_, (zw_lg_p (b := 147) (x := 8 + zq_and r48 255) (v := word) (by omega) (by rw [eσ76, zq_up_ne (by omega)]; exact w.1) (fun i => by rw [eσ76, zq_up_ne (by omega)]; exact w.2.1 i) (fun i => by rw [eσ76, zq_up_ne (by omega)]; rw [zw_cs_m (a := 149) rfl (by omega) (by omega), show 8 + zq_and r48 255 - 8 = zq_and r48 255 by omega]; exact w.2.2 i) hcs (by omega)), by omega, by omega⟩; rw [hcs, ix]; unfold zw_nv; rw [if_neg (by omega), if_neg (by omega)]))⟩
    · show V 26 [some (ZR 147), some (ZI target), some (ZI word), none] [] 284 σ
      refine zr_aload_n (pc := 26) hV dX10_become_26 rfl rfl ?_
      refine zr_iload_n (pc := 27) hV dX10_become_27 rfl rfl ?_
      refine zr_bipush (pc := 28) hV 63 dX10_become_28 (by decide) ?_
      refine zr_iand (pc := 30) hV dX10_become_30 ?_
      have t20 := zq_and_mask word 6 63 64 (by decide) (by decide) (by decide)
      refine zr_putI (pc := 31) hV 4 dX10_become_31 fX10_39 rfl rfl rfl (zc_k147 zc_s147) (zc_pos zc_s147 rfl) (fun σ31 eσ31 => ?_)
      have hσ31 : zc_T σ31 := zc_u147_4 eσ31 hσ zc_s147 (by omega)
      have hFσ31 := zc_Fw eσ31 zc_s147 rfl hFσ
      refine zr_goto (pc := 34) hV 108 dX10_become_34 (by decide) ?_
      show V 108 [some (ZR 147), some (ZI target), some (ZI word), none] [] 284 σ31
      have t21 := zc_g147_6 hσ31 zc_s147
      have t22 : σ31 147 6 = σ 147 6 := by rw [eσ31]; exact zq_up_ne (by omega)
      exact zr_vret (pc := 108) hV dX10_become_108 rfl rfl ⟨rfl, hσ31, hFσ31, trivial, (show zw_cs σ31 147 = zw_up (zw_cs σ 147) (zw_ix (σ 150) (zw_cs σ 147) target) (zw_nv target word) ∧ zw_lg σ σ31 147 ∧ σ 147 6 ≤ σ31 147 6 ∧ σ31 147 6 ≤ σ 147 6 + 1 from (by have hcs := zw_cs_u4 (b := 147) eσ31; refine ⟨?_, (zw_lg_s (b := 147) (by rw [eσ31, zq_up_ne (by omega)]) (fun i => by rw [eσ31, zq_up_ne (by omega)]) (fun i => by rw [eσ31, zq_up_ne (by omega)]) (fun i hi => by rw [hcs]; show (if i = _ then _ else _) = _; rw [if_neg (by omega)])), (by rw [eσ31, zq_up_ne (by omega)]; omega), (by rw [eσ31, zq_up_ne (by omega)]; omega)⟩; rw [hcs]; unfold zw_ix zw_nv; rw [if_neg (by omega), if_neg (by omega), if_pos (by omega), if_neg (by omega), if_pos (by omega), show zq_and word 63 = word % 64 by omega]))⟩
  · show V 5 [some (ZR 147), some (ZI target), some (ZI word), none] [] 284 σ
    refine zr_aload_n (pc := 5) hV dX10_become_5 rfl rfl ?_
    refine zr_iload_n (pc := 6) hV dX10_become_6 rfl rfl ?_
    refine zr_if_ne (pc := 7) hV 14 dX10_become_7 (by decide) (by omega) (fun c23 => ?_) (fun c23 => ?_)
    · show V 14 [some (ZR 147), some (ZI target), some (ZI word), none] [ZR 147] 284 σ
      refine zr_iconst (pc := 14) hV 1 dX10_become_14 rfl ?_
      show V 15 [some (ZR 147), some (ZI target), some (ZI word), none] [ZI 1, ZR 147] 284 σ
      refine zr_putI (pc := 15) hV 3 dX10_become_15 fX10_35 rfl rfl rfl (zc_k147 zc_s147) (zc_pos zc_s147 rfl) (fun σ15 eσ15 => ?_)
      have hσ15 : zc_T σ15 := zc_u147_3 eσ15 hσ zc_s147 (by omega)
      have hFσ15 := zc_Fw eσ15 zc_s147 rfl hFσ
      refine zr_goto (pc := 18) hV 108 dX10_become_18 (by decide) ?_
      show V 108 [some (ZR 147), some (ZI target), some (ZI word), none] [] 284 σ15
      have t24 := zc_g147_6 hσ15 zc_s147
      have t25 : σ15 147 6 = σ 147 6 := by rw [eσ15]; exact zq_up_ne (by omega)
      exact zr_vret (pc := 108) hV dX10_become_108 rfl rfl ⟨rfl, hσ15, hFσ15, trivial, (show zw_cs σ15 147 = zw_up (zw_cs σ 147) (zw_ix (σ 150) (zw_cs σ 147) target) (zw_nv target word) ∧ zw_lg σ σ15 147 ∧ σ 147 6 ≤ σ15 147 6 ∧ σ15 147 6 ≤ σ 147 6 + 1 from (by have hcs := zw_cs_u3 (b := 147) eσ15; refine ⟨?_, (zw_lg_s (b := 147) (by rw [eσ15, zq_up_ne (by omega)]) (fun i => by rw [eσ15, zq_up_ne (by omega)]) (fun i => by rw [eσ15, zq_up_ne (by omega)]) (fun i hi => by rw [hcs]; show (if i = _ then _ else _) = _; rw [if_neg (by omega)])), (by rw [eσ15, zq_up_ne (by omega)]; omega), (by rw [eσ15, zq_up_ne (by omega)]; omega)⟩; rw [hcs]; unfold zw_ix zw_nv; rw [if_neg (by omega), if_pos (by omega), if_pos (by omega)]; first | rw [if_pos (by omega)] | rw [if_neg (by omega)]))⟩
    · show V 10 [some (ZR 147), some (ZI target), some (ZI word), none] [ZR 147] 284 σ
      refine zr_iconst (pc := 10) hV 0 dX10_become_10 rfl ?_
      refine zr_goto (pc := 11) hV 15 dX10_become_11 (by decide) ?_
      show V 15 [some (ZR 147), some (ZI target), some (ZI word), none] [ZI 0, ZR 147] 284 σ
      refine zr_putI (pc := 15) hV 3 dX10_become_15 fX10_35 rfl rfl rfl (zc_k147 zc_s147) (zc_pos zc_s147 rfl) (fun σ15 eσ15 => ?_)
      have hσ15 : zc_T σ15 := zc_u147_3 eσ15 hσ zc_s147 (by omega)
      have hFσ15 := zc_Fw eσ15 zc_s147 rfl hFσ
      refine zr_goto (pc := 18) hV 108 dX10_become_18 (by decide) ?_
      show V 108 [some (ZR 147), some (ZI target), some (ZI word), none] [] 284 σ15
      have t26 := zc_g147_6 hσ15 zc_s147
      have t27 : σ15 147 6 = σ 147 6 := by rw [eσ15]; exact zq_up_ne (by omega)
      exact zr_vret (pc := 108) hV dX10_become_108 rfl rfl ⟨rfl, hσ15, hFσ15, trivial, (show zw_cs σ15 147 = zw_up (zw_cs σ 147) (zw_ix (σ 150) (zw_cs σ 147) target) (zw_nv target word) ∧ zw_lg σ σ15 147 ∧ σ 147 6 ≤ σ15 147 6 ∧ σ15 147 6 ≤ σ 147 6 + 1 from (by have hcs := zw_cs_u3 (b := 147) eσ15; refine ⟨?_, (zw_lg_s (b := 147) (by rw [eσ15, zq_up_ne (by omega)]) (fun i => by rw [eσ15, zq_up_ne (by omega)]) (fun i => by rw [eσ15, zq_up_ne (by omega)]) (fun i hi => by rw [hcs]; show (if i = _ then _ else _) = _; rw [if_neg (by omega)])), (by rw [eσ15, zq_up_ne (by omega)]; omega), (by rw [eσ15, zq_up_ne (by omega)]; omega)⟩; rw [hcs]; unfold zw_ix zw_nv; rw [if_neg (by omega), if_pos (by omega), if_pos (by omega)]; first | rw [if_pos (by omega)] | rw [if_neg (by omega)]))⟩
set_option maxHeartbeats 800000 in
theorem c_X3_doOn_T2 {σ : zq_S} (hσ : zc_T σ) (this : Int) (kthis : zc_kd this = 4) (q0 : zq_hid (zw_oo σ this)) (q1 : zq_hid (zw_ok (σ 150) (zw_cs σ 147) (σ 147 0))) (q2 : σ 147 6 = 0) : zq_C zc_w yX3_doOn cX3_doOn 4 (none) 3 65 284 284 [ZR this, ZR 147] σ (zq_pv (fun τ => zc_T τ ∧ zc_Fr [(147, 3), (147, 4), (147, 6), (148, -1), (149, -1), (151, -1), (152, -1)] σ τ ∧ (True) ∧ zq_hid (zw_cs τ 147 = zw_do (σ 150) (σ 147 0) (zw_ra σ this) 0 (σ this 4) (σ this 5) (σ this 6) (zw_cs σ 147) ∧ zw_ok (σ 150) (zw_cs τ 147) (σ 147 0) ∧ zw_lg σ τ 147))) := by
  refine zq_C_of (by decide) (Nat.le_refl _) (Nat.le_of_ble_eq_true rfl) [some (ZR this), some (ZR 147), none, none] rfl (fun V hV => ?_)
  have pothis := zc_pos kthis rfl
  have hFσ := zc_Fr_rf [(147, 3), (147, 4), (147, 6), (148, -1), (149, -1), (151, -1), (152, -1)] σ
  have z6t := zc_g4_6 hσ kthis
  show V 0 [some (ZR this), some (ZR 147), none, none] [] 284 σ
  refine zr_aload_n (pc := 0) hV dX3_doOn_0 rfl rfl ?_
  refine zr_getI (pc := 1) hV 4 dX3_doOn_1 fX3_43 rfl rfl (zc_k4 kthis) (zc_pos kthis rfl) ?_
  have t1 := zc_g4_4 hσ kthis
  have J40 : (zq_hid (zw_gd (σ 150) (zw_cs σ 147) (σ this 4) (σ this 5))) → V 40 [some (ZR this), some (ZR 147), none, none] [] 284 σ := by
    intro hi40_0
    show V 40 [some (ZR this), some (ZR 147), none, none] [] 284 σ
    refine zr_iconst (pc := 40) hV 0 dX3_doOn_40 rfl ?_
    refine zr_istore_n (pc := 41) hV [some (ZR this), some (ZR 147), some (ZI 0), none] dX3_doOn_41 rfl (by decide) rfl rfl ?_
    have L42 : ∀ (fuel : Nat) (x2_42 : Int) (σ_42 : zq_S), (0 ≤ x2_42 ∧ x2_42 ≤ 3) → (zc_T σ_42) → (zc_Fr [(147, 3), (147, 4), (147, 6), (148, -1), (149, -1), (151, -1), (152, -1)] σ σ_42) → (zq_hid (zw_cs σ_42 147 = zw_as (σ 150) (σ 147 0) (zw_ra σ this) (18 * 0) x2_42 (zw_cs σ 147))) → (zq_hid (zw_ok (σ 150) (zw_cs σ_42 147) (σ 147 0))) → (σ_42 147 6 ≤ x2_42) → (zq_hid (zw_lg σ σ_42 147)) → (x2_42 ≤ σ this 6) → (zq_hid (zw_gd (σ 150) (zw_cs σ 147) (σ this 4) (σ this 5))) → 3 - x2_42 < (fuel : Int) → V 42 [some (ZR this), some (ZR 147), some (ZI x2_42), none] [] 284 σ_42 := by
      intro fuel
      induction fuel with
      | zero =>
        intro x2_42 σ_42 hx2_42 hσ_42 hFσ_42 hi42_0 hi42_1 hi42_2 hi42_3 hi42_4 hi42_5 hm42
        exfalso; omega
      | succ fuel ih =>
        intro x2_42 σ_42 hx2_42 hσ_42 hFσ_42 hi42_0 hi42_1 hi42_2 hi42_3 hi42_4 hi42_5 hm42
        have ih42 := ih
        show V 42 [some (ZR this), some (ZR 147), some (ZI x2_42), none] [] 284 σ_42
        refine zr_iload_n (pc := 42) hV dX3_doOn_42 rfl rfl ?_
        refine zr_aload_n (pc := 43) hV dX3_doOn_43 rfl rfl ?_
        refine zr_getI (pc := 44) hV 6 dX3_doOn_44 fX3_49 rfl rfl (zc_k4 kthis) (zc_pos kthis rfl) ?_
        have t2 := zc_g4_6 hσ_42 kthis
        have t3 : σ_42 this 6 = σ this 6 := hFσ_42 _ _ (zc_out_at kthis rfl)
        refine zr_icmp_ge (pc := 47) hV 112 dX3_doOn_47 (by decide) (by omega) (by omega) (fun c4 => ?_) (fun c4 => ?_)
        · show V 112 [some (ZR this), some (ZR 147), some (ZI x2_42), none] [] 284 σ_42
          exact zr_vret (pc := 112) hV dX3_doOn_112 rfl rfl ⟨rfl, hσ_42, hFσ_42, trivial, (show zw_cs σ_42 147 = zw_do (σ 150) (σ 147 0) (zw_ra σ this) 0 (σ this 4) (σ this 5) (σ this 6) (zw_cs σ 147) ∧ zw_ok (σ 150) (zw_cs σ_42 147) (σ 147 0) ∧ zw_lg σ σ_42 147 from ⟨by rw [zw_do_y hi42_5, show σ this 6 = x2_42 by omega]; exact hi42_0, hi42_1, hi42_3⟩)⟩
        · show V 50 [some (ZR this), some (ZR 147), some (ZI x2_42), none] [] 284 σ_42
          have eF : σ_42 150 = σ 150 := funext (fun i => hFσ_42 150 i (zc_out_ar zc_s150 rfl))
          have eM : σ_42 147 0 = σ 147 0 := hFσ_42 147 0 (zc_out_at zc_s147 rfl)
          have eo2 : σ_42 (this + 2) x2_42 = σ (this + 2) x2_42 := hFσ_42 _ _ (zc_out_ar (zc_p4_2 kthis) rfl)
          have eo3 : σ_42 (this + 3) x2_42 = σ (this + 3) x2_42 := hFσ_42 _ _ (zc_out_ar (zc_p4_3 kthis) rfl)
          have eo4 : σ_42 (this + 4) x2_42 = σ (this + 4) x2_42 := hFσ_42 _ _ (zc_out_ar (zc_p4_4 kthis) rfl)
          have eo5 : σ_42 (this + 5) x2_42 = σ (this + 5) x2_42 := hFσ_42 _ _ (zc_out_ar (zc_p4_5 kthis) rfl)
          have oo := q0.2 x2_42 (by omega) (by omega)
          refine zr_aload_n (pc := 50) hV dX3_doOn_50 rfl rfl ?_
          refine zr_aload_n (pc := 51) hV dX3_doOn_51 rfl rfl ?_
          refine zr_getR (pc := 52) hV 8 (this + 3) dX3_doOn_52 fX3_18 rfl rfl (zc_k4 kthis) (zc_pos kthis rfl) (zc_g4_8 hσ_42 kthis) (zc_pos (zc_p4_3 kthis) rfl).1 ?_
          refine zr_iload_n (pc := 55) hV dX3_doOn_55 rfl rfl ?_
          refine zr_iald (pc := 56) hV dX3_doOn_56 (zc_k7 (zc_p4_3 kthis)) (zc_pos (zc_p4_3 kthis) rfl) rfl (by omega) ?_
          have t5 := zc_ga7 hσ_42 (zc_p4_3 kthis) x2_42
          have t6 : σ_42 (this + 3) x2_42 = σ (this + 3) x2_42 := hFσ_42 _ _ (zc_out_ar (zc_p4_3 kthis) rfl)
          have t7 := zc_g147_0 hσ_42 zc_s147
          have t8 : σ_42 147 0 = σ 147 0 := hFσ_42 _ _ (zc_out_at zc_s147 rfl)
          refine zr_callUp (pc := 57) hV [ZI (σ_42 (this + 3) x2_42)] (st := []) (c_X10_wordOf_t2 (σ := σ_42) hσ_42 (σ_42 (this + 3) x2_42) (by omega) (zc_ga7 hσ_42 (zc_p4_3 kthis) _).2.2 (by rw [eF, eM]; exact hi42_1)) dX3_doOn_57 mX3_102_10 (zc_k147 zc_s147) (zc_pos zc_s147 rfl) (by decide) (Nat.le_of_ble_eq_true rfl) (Nat.le_refl _) (fun r57 hr57 pr57 => ?_)
          have t9 := zc_g147_0 hσ_42 zc_s147
          have t10 : σ_42 147 0 = σ 147 0 := hFσ_42 _ _ (zc_out_at zc_s147 rfl)
          refine zr_istore_n (pc := 60) hV [some (ZR this), some (ZR 147), some (ZI x2_42), some (ZI r57)] dX3_doOn_60 rfl (by decide) rfl rfl ?_
          refine zr_aload_n (pc := 61) hV dX3_doOn_61 rfl rfl ?_
          refine zr_getR (pc := 62) hV 9 (this + 4) dX3_doOn_62 fX3_21 rfl rfl (zc_k4 kthis) (zc_pos kthis rfl) (zc_g4_9 hσ_42 kthis) (zc_pos (zc_p4_4 kthis) rfl).1 ?_
          refine zr_iload_n (pc := 65) hV dX3_doOn_65 rfl rfl ?_
          refine zr_iald (pc := 66) hV dX3_doOn_66 (zc_k8 (zc_p4_4 kthis)) (zc_pos (zc_p4_4 kthis) rfl) rfl (by omega) ?_
          have t11 := zc_ga8 hσ_42 (zc_p4_4 kthis) x2_42
          have t12 : σ_42 (this + 4) x2_42 = σ (this + 4) x2_42 := hFσ_42 _ _ (zc_out_ar (zc_p4_4 kthis) rfl)
          have J95 : ∀ (x3_95 : Int), (0 ≤ x3_95 ∧ x3_95 ≤ 255) → (zq_hid (x3_95 = zw_vl (σ 150) (zw_cs σ_42 147) (σ 147 0) (zw_ra σ this) (18 * 0 + 6 * x2_42))) → (0 ≤ x3_95 ∧ x3_95 ≤ σ 147 0) → V 95 [some (ZR this), some (ZR 147), some (ZI x2_42), some (ZI x3_95)] [] 284 σ_42 := by
            intro x3_95 hx3_95 hi95_0 hi95_1
            show V 95 [some (ZR this), some (ZR 147), some (ZI x2_42), some (ZI x3_95)] [] 284 σ_42
            refine zr_aload_n (pc := 95) hV dX3_doOn_95 rfl rfl ?_
            refine zr_aload_n (pc := 96) hV dX3_doOn_96 rfl rfl ?_
            refine zr_getR (pc := 97) hV 7 (this + 2) dX3_doOn_97 fX3_15 rfl rfl (zc_k4 kthis) (zc_pos kthis rfl) (zc_g4_7 hσ_42 kthis) (zc_pos (zc_p4_2 kthis) rfl).1 ?_
            refine zr_iload_n (pc := 100) hV dX3_doOn_100 rfl rfl ?_
            refine zr_iald (pc := 101) hV dX3_doOn_101 (zc_k6 (zc_p4_2 kthis)) (zc_pos (zc_p4_2 kthis) rfl) rfl (by omega) ?_
            have t13 := zc_ga6 hσ_42 (zc_p4_2 kthis) x2_42
            have t14 : σ_42 (this + 2) x2_42 = σ (this + 2) x2_42 := hFσ_42 _ _ (zc_out_ar (zc_p4_2 kthis) rfl)
            refine zr_iload_n (pc := 102) hV dX3_doOn_102 rfl rfl ?_
            have t15 := zc_g147_0 hσ_42 zc_s147
            have t16 : σ_42 147 0 = σ 147 0 := hFσ_42 _ _ (zc_out_at zc_s147 rfl)
            have t17 := zc_g147_6 hσ_42 zc_s147
            have t18 := zc_g147_0 hσ_42 zc_s147
            have t19 : σ_42 147 0 = σ 147 0 := hFσ_42 _ _ (zc_out_at zc_s147 rfl)
            refine zr_callUv (pc := 103) hV [ZI (σ_42 (this + 2) x2_42), ZI x3_95] (st := []) (c_X10_become_t2 (σ := σ_42) hσ_42 (σ_42 (this + 2) x2_42) x3_95 (by omega) (by omega) (by rw [eo2]; exact oo.1) (by rw [eF, eM]; exact hi42_1) (by omega) (by omega)) dX3_doOn_103 mX3_114_10 (zc_k147 zc_s147) (zc_pos zc_s147 rfl) (by decide) (Nat.le_of_ble_eq_true rfl) (Nat.le_refl _) (fun σ103 pσ103 => ?_)
            obtain ⟨hσ103, hfσ103, pσ103, wσ103⟩ := pσ103
            have hFσ103 := zc_Fc hfσ103 rfl hFσ_42
            have t20 := zc_g147_6 hσ_42 zc_s147
            refine zr_iinc (pc := 106) hV [some (ZR this), some (ZR 147), some (ZI (x2_42 + 1)), some (ZI x3_95)] (x2_42 + 1) dX3_doOn_106 rfl rfl (by decide) rfl rfl ?_
            refine zr_goto (pc := 109) hV 42 dX3_doOn_109 (by decide) ?_
            have t21 := zc_g147_6 hσ103 zc_s147
            refine zr_sub (pc := 42) hV [some (ZR this), some (ZR 147), some (ZI (x2_42 + 1)), none] (⟨rfl, rfl, rfl, trivial⟩) ?_
            exact ih42 (x2_42 + 1) σ103 (by omega) hσ103 hFσ103 (by have w := wσ103; unfold zq_hid at w; rw [eF, eo2] at w; have h0 := hi42_0; unfold zq_hid at h0; have h5 : x3_95 = zw_vl (σ 150) (zw_cs σ_42 147) (σ 147 0) (zw_ra σ this) (18 * 0 + 6 * x2_42) := hi95_0; unfold zq_hid; rw [zw_as_s (by omega), ← h0, w.1]; unfold zw_ac; rw [zw_ra_0 (j := x2_42) (by omega), ← h5]) (by have w := wσ103; unfold zq_hid at w; rw [eF, eo2] at w; have h0 := hi42_0; unfold zq_hid at h0; have h5 : x3_95 = zw_vl (σ 150) (zw_cs σ_42 147) (σ 147 0) (zw_ra σ this) (18 * 0 + 6 * x2_42) := hi95_0; unfold zq_hid; rw [w.1]; exact zw_ok_up hi42_1 ⟨by omega, by omega, oo.1⟩ (by omega)) (by have z := wσ103.2.2; omega) (zw_lg_t hi42_3 wσ103.2.1) (by omega) hi42_5 (by omega)
          refine zr_if_eq (pc := 67) hV 95 dX3_doOn_67 (by decide) (by omega) (fun c22 => ?_) (fun c22 => ?_)
          · exact J95 r57 (by omega) (zw_vl_0 hi42_1 (by rw [zw_ra_3 (j := x2_42) (by omega), show σ (this + 4) x2_42 = 0 by omega]; exact zt_sn_0) (by have z := pr57.2.2; rw [eF, eM, eo3] at z; rw [zw_ra_1 (j := x2_42) (by omega), zw_ra_2 (j := x2_42) (by omega)]; exact z) (by omega)) (by omega)
          · show V 70 [some (ZR this), some (ZR 147), some (ZI x2_42), some (ZI r57)] [] 284 σ_42
            refine zr_aload_n (pc := 70) hV dX3_doOn_70 rfl rfl ?_
            refine zr_getR (pc := 71) hV 9 (this + 4) dX3_doOn_71 fX3_21 rfl rfl (zc_k4 kthis) (zc_pos kthis rfl) (zc_g4_9 hσ_42 kthis) (zc_pos (zc_p4_4 kthis) rfl).1 ?_
            refine zr_iload_n (pc := 74) hV dX3_doOn_74 rfl rfl ?_
            refine zr_iald (pc := 75) hV dX3_doOn_75 (zc_k8 (zc_p4_4 kthis)) (zc_pos (zc_p4_4 kthis) rfl) rfl (by omega) ?_
            have t23 := zc_ga8 hσ_42 (zc_p4_4 kthis) x2_42
            have t24 : σ_42 (this + 4) x2_42 = σ (this + 4) x2_42 := hFσ_42 _ _ (zc_out_ar (zc_p4_4 kthis) rfl)
            refine zr_iload_n (pc := 76) hV dX3_doOn_76 rfl rfl ?_
            refine zr_aload_n (pc := 77) hV dX3_doOn_77 rfl rfl ?_
            refine zr_aload_n (pc := 78) hV dX3_doOn_78 rfl rfl ?_
            refine zr_getR (pc := 79) hV 10 (this + 5) dX3_doOn_79 fX3_24 rfl rfl (zc_k4 kthis) (zc_pos kthis rfl) (zc_g4_10 hσ_42 kthis) (zc_pos (zc_p4_5 kthis) rfl).1 ?_
            refine zr_iload_n (pc := 82) hV dX3_doOn_82 rfl rfl ?_
            refine zr_iald (pc := 83) hV dX3_doOn_83 (zc_k9 (zc_p4_5 kthis)) (zc_pos (zc_p4_5 kthis) rfl) rfl (by omega) ?_
            have t25 := zc_ga9 hσ_42 (zc_p4_5 kthis) x2_42
            have t26 : σ_42 (this + 5) x2_42 = σ (this + 5) x2_42 := hFσ_42 _ _ (zc_out_ar (zc_p4_5 kthis) rfl)
            have t27 := zc_g147_0 hσ_42 zc_s147
            have t28 : σ_42 147 0 = σ 147 0 := hFσ_42 _ _ (zc_out_at zc_s147 rfl)
            refine zr_callUp (pc := 84) hV [ZI (σ_42 (this + 5) x2_42)] (st := [ZI r57, ZI (σ_42 (this + 4) x2_42)]) (c_X10_wordOf_t2 (σ := σ_42) hσ_42 (σ_42 (this + 5) x2_42) (by omega) (zc_ga9 hσ_42 (zc_p4_5 kthis) _).2.2 (by rw [eF, eM]; exact hi42_1)) dX3_doOn_84 mX3_102_10 (zc_k147 zc_s147) (zc_pos zc_s147 rfl) (by decide) (Nat.le_of_ble_eq_true rfl) (Nat.le_refl _) (fun r84 hr84 pr84 => ?_)
            have t29 := zc_g147_0 hσ_42 zc_s147
            have t30 : σ_42 147 0 = σ 147 0 := hFσ_42 _ _ (zc_out_at zc_s147 rfl)
            refine zr_aload_n (pc := 87) hV dX3_doOn_87 rfl rfl ?_
            refine zr_getI (pc := 88) hV 0 dX3_doOn_88 fX3_107_10 rfl rfl (zc_k147 zc_s147) (zc_pos zc_s147 rfl) ?_
            have t31 := zc_g147_0 hσ_42 zc_s147
            have t32 : σ_42 147 0 = σ 147 0 := hFσ_42 _ _ (zc_out_at zc_s147 rfl)
            have t33 := zc_g147_0 hσ_42 zc_s147
            have t34 : σ_42 147 0 = σ 147 0 := hFσ_42 _ _ (zc_out_at zc_s147 rfl)
            refine zr_callSp (pc := 91) hV [ZI (σ_42 (this + 4) x2_42), ZI r57, ZI r84, ZI (σ_42 147 0)] (st := []) (c_X3_combine_2 (σ := σ_42) (σ_42 (this + 4) x2_42) r57 r84 (σ_42 147 0) (by omega) (by omega) (by omega) (by omega)) dX3_doOn_91 mX3_110 (by decide) (Nat.le_of_ble_eq_true rfl) (Nat.le_refl _) (fun r91 hr91 pr91 => ?_)
            have t35 := zc_g147_0 hσ_42 zc_s147
            have t36 : σ_42 147 0 = σ 147 0 := hFσ_42 _ _ (zc_out_at zc_s147 rfl)
            refine zr_istore_n (pc := 94) hV [some (ZR this), some (ZR 147), some (ZI x2_42), some (ZI r91)] dX3_doOn_94 rfl (by decide) rfl rfl ?_
            exact J95 r91 (by omega) (zw_vl_1 (c := σ (this + 4) x2_42) (x := r57) (y := r84) hi42_1 (zw_ra_3 (j := x2_42) (by omega)) (by rcases oo.2 with z | z; (exfalso; omega); exact z) (by have z := pr57.2.2; rw [eF, eM, eo3] at z; rw [zw_ra_1 (j := x2_42) (by omega), zw_ra_2 (j := x2_42) (by omega)]; exact z) (by have z := pr84.2.2; rw [eF, eM, eo5] at z; rw [zw_ra_4 (j := x2_42) (by omega), zw_ra_5 (j := x2_42) (by omega)]; exact z) (by omega) (by omega) (by have z := pr91.2; rw [eo4, eM] at z; exact z)) (by have e : r91 = zw_vl (σ 150) (zw_cs σ_42 147) (σ 147 0) (zw_ra σ this) (18 * 0 + 6 * x2_42) := (zw_vl_1 (c := σ (this + 4) x2_42) (x := r57) (y := r84) hi42_1 (zw_ra_3 (j := x2_42) (by omega)) (by rcases oo.2 with z | z; (exfalso; omega); exact z) (by have z := pr57.2.2; rw [eF, eM, eo3] at z; rw [zw_ra_1 (j := x2_42) (by omega), zw_ra_2 (j := x2_42) (by omega)]; exact z) (by have z := pr84.2.2; rw [eF, eM, eo5] at z; rw [zw_ra_4 (j := x2_42) (by omega), zw_ra_5 (j := x2_42) (by omega)]; exact z) (by omega) (by omega) (by have z := pr91.2; rw [eo4, eM] at z; exact z)); rw [e]; exact zw_vl_b hi42_1)
    have t37 := zc_g147_6 hσ zc_s147
    exact L42 (3 - (0 : Int) + 1 : Int).toNat 0 σ (by omega) hσ hFσ (zw_as_0 _ _ _ _ _).symm q1 (by omega) (zw_lg_r σ 147) (by omega) hi40_0 (by omega)
  refine zr_if_eq (pc := 4) hV 40 dX3_doOn_4 (by decide) (by omega) (fun c38 => ?_) (fun c38 => ?_)
  · have t39 := zc_g4_4 hσ kthis
    have t40 := zc_g4_5 hσ kthis
    exact J40 (by unfold zq_hid zw_gd; first | exact Or.inl (by omega) | exact Or.inr (by rw [← eg]; omega))
  · show V 7 [some (ZR this), some (ZR 147), none, none] [] 284 σ
    refine zr_aload_n (pc := 7) hV dX3_doOn_7 rfl rfl ?_
    refine zr_aload_n (pc := 8) hV dX3_doOn_8 rfl rfl ?_
    refine zr_getI (pc := 9) hV 5 dX3_doOn_9 fX3_46 rfl rfl (zc_k4 kthis) (zc_pos kthis rfl) ?_
    have t41 := zc_g4_5 hσ kthis
    have t42 := zc_g4_5 hσ kthis
    have t43 := zc_g4_5 hσ kthis
    have t44 := zc_g147_0 hσ zc_s147
    refine zr_callUp (pc := 12) hV [ZI (σ this 5)] (st := []) (c_X10_wordOf_t2 (σ := σ) hσ (σ this 5) (by omega) (Or.inl (by omega)) q1) dX3_doOn_12 mX3_102_10 (zc_k147 zc_s147) (zc_pos zc_s147 rfl) (by decide) (Nat.le_of_ble_eq_true rfl) (Nat.le_refl _) (fun r12 hr12 pr12 => ?_)
    have t45 := zc_g147_0 hσ zc_s147
    have t46 := zc_g4_5 hσ kthis
    have eg : r12 = (if σ this 5 = 4 then zw_cs σ 147 264 else zw_cs σ 147 (σ 150 (σ this 5))) := pr12.2.2.trans (zw_gw (by omega) (q0.1 (by omega)))
    refine zr_if_eq (pc := 15) hV 22 dX3_doOn_15 (by decide) (by omega) (fun c47 => ?_) (fun c47 => ?_)
    · show V 22 [some (ZR this), some (ZR 147), none, none] [] 284 σ
      refine zr_iconst (pc := 22) hV 0 dX3_doOn_22 rfl ?_
      show V 23 [some (ZR this), some (ZR 147), none, none] [ZI 0] 284 σ
      refine zr_aload_n (pc := 23) hV dX3_doOn_23 rfl rfl ?_
      refine zr_getI (pc := 24) hV 4 dX3_doOn_24 fX3_43 rfl rfl (zc_k4 kthis) (zc_pos kthis rfl) ?_
      have t48 := zc_g4_4 hσ kthis
      refine zr_iconst (pc := 27) hV 1 dX3_doOn_27 rfl ?_
      refine zr_icmp_ne (pc := 28) hV 35 dX3_doOn_28 (by decide) (by omega) ⟨by decide, by decide⟩ (fun c49 => ?_) (fun c49 => ?_)
      · show V 35 [some (ZR this), some (ZR 147), none, none] [ZI 0] 284 σ
        refine zr_iconst (pc := 35) hV 0 dX3_doOn_35 rfl ?_
        show V 36 [some (ZR this), some (ZR 147), none, none] [ZI 0, ZI 0] 284 σ
        refine zr_icmp_eq (pc := 36) hV 40 dX3_doOn_36 (by decide) ⟨by decide, by decide⟩ ⟨by decide, by decide⟩ (fun c50 => ?_) (fun c50 => ?_)
        · have t51 := zc_g4_4 hσ kthis
          have t52 := zc_g4_5 hσ kthis
          exact J40 (by unfold zq_hid zw_gd; first | exact Or.inl (by omega) | exact Or.inr (by rw [← eg]; omega))
        · exfalso; omega
      · show V 31 [some (ZR this), some (ZR 147), none, none] [ZI 0] 284 σ
        refine zr_iconst (pc := 31) hV 1 dX3_doOn_31 rfl ?_
        refine zr_goto (pc := 32) hV 36 dX3_doOn_32 (by decide) ?_
        show V 36 [some (ZR this), some (ZR 147), none, none] [ZI 1, ZI 0] 284 σ
        refine zr_icmp_eq (pc := 36) hV 40 dX3_doOn_36 (by decide) ⟨by decide, by decide⟩ ⟨by decide, by decide⟩ (fun c53 => ?_) (fun c53 => ?_)
        · exfalso; omega
        · show V 39 [some (ZR this), some (ZR 147), none, none] [] 284 σ
          exact zr_vret (pc := 39) hV dX3_doOn_39 rfl rfl ⟨rfl, hσ, hFσ, trivial, (show zw_cs σ 147 = zw_do (σ 150) (σ 147 0) (zw_ra σ this) 0 (σ this 4) (σ this 5) (σ this 6) (zw_cs σ 147) ∧ zw_ok (σ 150) (zw_cs σ 147) (σ 147 0) ∧ zw_lg σ σ 147 from ⟨by rw [zw_do_n (fun q => by rcases q with q | q; omega; (rw [← eg] at q; omega))], q1, zw_lg_r σ 147⟩)⟩
    · show V 18 [some (ZR this), some (ZR 147), none, none] [] 284 σ
      refine zr_iconst (pc := 18) hV 1 dX3_doOn_18 rfl ?_
      refine zr_goto (pc := 19) hV 23 dX3_doOn_19 (by decide) ?_
      show V 23 [some (ZR this), some (ZR 147), none, none] [ZI 1] 284 σ
      refine zr_aload_n (pc := 23) hV dX3_doOn_23 rfl rfl ?_
      refine zr_getI (pc := 24) hV 4 dX3_doOn_24 fX3_43 rfl rfl (zc_k4 kthis) (zc_pos kthis rfl) ?_
      have t54 := zc_g4_4 hσ kthis
      refine zr_iconst (pc := 27) hV 1 dX3_doOn_27 rfl ?_
      refine zr_icmp_ne (pc := 28) hV 35 dX3_doOn_28 (by decide) (by omega) ⟨by decide, by decide⟩ (fun c55 => ?_) (fun c55 => ?_)
      · show V 35 [some (ZR this), some (ZR 147), none, none] [ZI 1] 284 σ
        refine zr_iconst (pc := 35) hV 0 dX3_doOn_35 rfl ?_
        show V 36 [some (ZR this), some (ZR 147), none, none] [ZI 0, ZI 1] 284 σ
        refine zr_icmp_eq (pc := 36) hV 40 dX3_doOn_36 (by decide) ⟨by decide, by decide⟩ ⟨by decide, by decide⟩ (fun c56 => ?_) (fun c56 => ?_)
        · exfalso; omega
        · show V 39 [some (ZR this), some (ZR 147), none, none] [] 284 σ
          exact zr_vret (pc := 39) hV dX3_doOn_39 rfl rfl ⟨rfl, hσ, hFσ, trivial, (show zw_cs σ 147 = zw_do (σ 150) (σ 147 0) (zw_ra σ this) 0 (σ this 4) (σ this 5) (σ this 6) (zw_cs σ 147) ∧ zw_ok (σ 150) (zw_cs σ 147) (σ 147 0) ∧ zw_lg σ σ 147 from ⟨by rw [zw_do_n (fun q => by rcases q with q | q; omega; (rw [← eg] at q; omega))], q1, zw_lg_r σ 147⟩)⟩
      · show V 31 [some (ZR this), some (ZR 147), none, none] [ZI 1] 284 σ
        refine zr_iconst (pc := 31) hV 1 dX3_doOn_31 rfl ?_
        refine zr_goto (pc := 32) hV 36 dX3_doOn_32 (by decide) ?_
        show V 36 [some (ZR this), some (ZR 147), none, none] [ZI 1, ZI 1] 284 σ
        refine zr_icmp_eq (pc := 36) hV 40 dX3_doOn_36 (by decide) ⟨by decide, by decide⟩ ⟨by decide, by decide⟩ (fun c57 => ?_) (fun c57 => ?_)
        · have t58 := zc_g4_4 hσ kthis
          have t59 := zc_g4_5 hσ kthis
          exact J40 (by unfold zq_hid zw_gd; first | exact Or.inl (by omega) | exact Or.inr (by rw [← eg]; omega))
        · exfalso; omega
set_option maxHeartbeats 800000 in
theorem c_X10_perform_t2 {σ : zq_S} (hσ : zc_T σ) (order : Int) (korder : zc_kd order = 4) (bits : Int) (q0 : 0 ≤ bits ∧ bits ≤ 4095) (q1 : zq_hid (zw_oo σ order)) (q2 : zq_hid ((∀ f, 0 ≤ f → f ≤ 2 → 0 ≤ zu_cv σ order bits f ∧ zu_cv σ order bits f ≤ 7) ∧ 0 ≤ zu_cv σ order bits 3 ∧ zu_cv σ order bits 3 ≤ σ 147 0)) (q3 : zq_hid (zw_ok (fun _ => 0) (zw_cs σ 147) (σ 147 0))) : zq_C zc_w yX10_perform cX10_perform 4 (none) 4 88 284 284 [ZR 147, ZR order, ZI bits] σ (zq_pv (fun τ => zc_T τ ∧ zc_Fr [(147, 3), (147, 4), (147, 6), (148, -1), (149, -1), (150, -1), (151, -1), (152, -1)] σ τ ∧ (True) ∧ zq_hid (zw_cs τ 147 = zw_do (τ 150) (σ 147 0) (zw_ra σ order) 0 (σ order 4) (σ order 5) (σ order 6) (zw_up (zw_cs σ 147) 265 ((σ 147 4 + 1) % 64)) ∧ zw_ok (τ 150) (zw_cs τ 147) (σ 147 0) ∧ (∀ i, i < 264 → zw_un (τ 151) (τ 152) (τ 147 6) (zw_cs τ 147) i = zw_cs σ 147 i) ∧ (∀ j, 0 ≤ j → j < τ 147 6 → 0 ≤ τ 151 j ∧ τ 151 j < 264) ∧ (∀ f, 0 ≤ f → f ≤ 3 → τ 150 f = zu_cv σ order bits f)))) := by
  refine zq_C_of (by decide) (Nat.le_refl _) (Nat.le_of_ble_eq_true rfl) [some (ZR 147), some (ZR order), some (ZI bits), none] rfl (fun V hV => ?_)
  have poorder := zc_pos korder rfl
  have hFσ := zc_Fr_rf [(147, 3), (147, 4), (147, 6), (148, -1), (149, -1), (150, -1), (151, -1), (152, -1)] σ
  have okp : 0 ≤ σ 147 4 ∧ σ 147 4 ≤ 63 := by have z := q3.2.2.2.2.1; rw [zw_cs_p] at z; exact z
  show V 0 [some (ZR 147), some (ZR order), some (ZI bits), none] [] 284 σ
  refine zr_iconst (pc := 0) hV 0 dX10_perform_0 rfl ?_
  refine zr_istore_n (pc := 1) hV [some (ZR 147), some (ZR order), some (ZI bits), some (ZI 0)] dX10_perform_1 rfl (by decide) rfl rfl ?_
  have L2 : ∀ (fuel : Nat) (x3_2 : Int) (σ_2 : zq_S), (0 ≤ x3_2 ∧ x3_2 ≤ 4) → (zc_T σ_2) → (zc_Fr [(147, 3), (147, 4), (147, 6), (148, -1), (149, -1), (150, -1), (151, -1), (152, -1)] σ σ_2) → (zq_hid (∀ f, 0 ≤ f → f < x3_2 → σ_2 150 f = zu_cv σ order bits f)) → (zq_hid (zw_cs σ_2 147 = zw_cs σ 147)) → (σ_2 147 4 = σ 147 4) → 4 - x3_2 < (fuel : Int) → V 2 [some (ZR 147), some (ZR order), some (ZI bits), some (ZI x3_2)] [] 284 σ_2 := by
    intro fuel
    induction fuel with
    | zero =>
      intro x3_2 σ_2 hx3_2 hσ_2 hFσ_2 hi2_0 hi2_1 hi2_2 hm2
      exfalso; omega
    | succ fuel ih =>
      intro x3_2 σ_2 hx3_2 hσ_2 hFσ_2 hi2_0 hi2_1 hi2_2 hm2
      have ih2 := ih
      show V 2 [some (ZR 147), some (ZR order), some (ZI bits), some (ZI x3_2)] [] 284 σ_2
      refine zr_iload_n (pc := 2) hV dX10_perform_2 rfl rfl ?_
      refine zr_iconst (pc := 3) hV 3 dX10_perform_3 rfl ?_
      refine zr_icmp_gt (pc := 4) hV 25 dX10_perform_4 (by decide) (by omega) ⟨by decide, by decide⟩ (fun c1 => ?_) (fun c1 => ?_)
      · show V 25 [some (ZR 147), some (ZR order), some (ZI bits), some (ZI x3_2)] [] 284 σ_2
        refine zr_aload_n (pc := 25) hV dX10_perform_25 rfl rfl ?_
        refine zr_iconst (pc := 26) hV 0 dX10_perform_26 rfl ?_
        refine zr_putI (pc := 27) hV 6 dX10_perform_27 fX10_59 rfl rfl rfl (zc_k147 zc_s147) (zc_pos zc_s147 rfl) (fun σ27 eσ27 => ?_)
        have hσ27 : zc_T σ27 := zc_u147_6 eσ27 hσ_2 zc_s147 (by omega)
        have hFσ27 := zc_Fw eσ27 zc_s147 rfl hFσ_2
        refine zr_aload_n (pc := 30) hV dX10_perform_30 rfl rfl ?_
        refine zr_aload_n (pc := 31) hV dX10_perform_31 rfl rfl ?_
        refine zr_getI (pc := 32) hV 4 dX10_perform_32 fX10_39 rfl rfl (zc_k147 zc_s147) (zc_pos zc_s147 rfl) ?_
        have t2 := zc_g147_4 hσ27 zc_s147
        have t3 : σ27 147 4 = σ_2 147 4 := by rw [eσ27]; exact zq_up_ne (by omega)
        refine zr_iconst (pc := 35) hV 1 dX10_perform_35 rfl ?_
        refine zr_iadd (pc := 36) hV dX10_perform_36 ?_
        refine zr_bipush (pc := 37) hV 63 dX10_perform_37 (by decide) ?_
        refine zr_iand (pc := 39) hV dX10_perform_39 ?_
        have t4 := zq_and_mask ((σ27 147 4) + 1) 6 63 64 (by decide) (by decide) (by decide)
        refine zr_putI (pc := 40) hV 4 dX10_perform_40 fX10_39 rfl rfl rfl (zc_k147 zc_s147) (zc_pos zc_s147 rfl) (fun σ40 eσ40 => ?_)
        have hσ40 : zc_T σ40 := zc_u147_4 eσ40 hσ27 zc_s147 (by omega)
        have hFσ40 := zc_Fw eσ40 zc_s147 rfl hFσ27
        have c27 : zw_cs σ27 147 = zw_cs σ 147 := (zw_cs_c (σ := σ_2) (fun i => by rw [eσ27, zq_up_ne (by omega)]) (fun i => by rw [eσ27, zq_up_ne (by omega)]) (by rw [eσ27, zq_up_ne (by omega)]) (by rw [eσ27, zq_up_ne (by omega)])).trans hi2_1
        have p27 : σ27 147 4 = σ 147 4 := by rw [eσ27, zq_up_ne (by omega)]; omega
        have hcs : zw_cs σ40 147 = zw_up (zw_cs σ 147) 265 ((σ 147 4 + 1) % 64) := by rw [zw_cs_u4 (b := 147) eσ40, c27, ← p27, show zq_and (σ27 147 4 + 1) 63 = (σ27 147 4 + 1) % 64 by omega]
        have g40 : zq_hid (∀ f, 0 ≤ f → f ≤ 3 → σ40 150 f = zu_cv σ order bits f) := fun f f0 f3 => by rw [eσ40, zq_up_ne (by omega), eσ27, zq_up_ne (by omega)]; exact hi2_0 f f0 (by omega)
        have m40 : σ40 147 0 = σ 147 0 := hFσ40 147 0 (zc_out_at zc_s147 rfl)
        have n40 : σ40 147 6 = 0 := by rw [eσ40, zq_up_ne (by omega), eσ27, zq_up_same]
        have ko := zw_ra_fr (σ := σ) (τ := σ40) (a := order) (fun k i h2 h5 => by obtain rfl | rfl | rfl | rfl : k = 2 ∨ k = 3 ∨ k = 4 ∨ k = 5 := (by omega); exact hFσ40 _ _ (zc_out_ar (zc_p4_2 korder) rfl); exact hFσ40 _ _ (zc_out_ar (zc_p4_3 korder) rfl); exact hFσ40 _ _ (zc_out_ar (zc_p4_4 korder) rfl); exact hFσ40 _ _ (zc_out_ar (zc_p4_5 korder) rfl))
        have ho4 : σ40 order 4 = σ order 4 := hFσ40 order 4 (zc_out_at korder rfl)
        have ho5 : σ40 order 5 = σ order 5 := hFσ40 order 5 (zc_out_at korder rfl)
        have ho6 : σ40 order 6 = σ order 6 := hFσ40 order 6 (zc_out_at korder rfl)
        have oo40 : zq_hid (zw_oo σ40 order) := zw_oo_fr ho4 ho5 ho6 (fun k i h2 h5 => by obtain rfl | rfl | rfl | rfl : k = 2 ∨ k = 3 ∨ k = 4 ∨ k = 5 := (by omega); exact hFσ40 _ _ (zc_out_ar (zc_p4_2 korder) rfl); exact hFσ40 _ _ (zc_out_ar (zc_p4_3 korder) rfl); exact hFσ40 _ _ (zc_out_ar (zc_p4_4 korder) rfl); exact hFσ40 _ _ (zc_out_ar (zc_p4_5 korder) rfl)) q1
        have ok40 : zq_hid (zw_ok (σ40 150) (zw_cs σ40 147) (σ40 147 0)) := by unfold zq_hid; rw [hcs, m40]; exact zw_ok_p q3 ⟨fun f f0 f2 => by rw [g40 f f0 (by omega)]; exact q2.1 f f0 f2, by rw [g40 3 (by decide) (by decide)]; exact q2.2⟩ (by omega)
        refine zr_aload_n (pc := 43) hV dX10_perform_43 rfl rfl ?_
        refine zr_aload_n (pc := 44) hV dX10_perform_44 rfl rfl ?_
        have t5 := zc_g147_0 hσ40 zc_s147
        have t6 : σ40 147 0 = σ27 147 0 := by rw [eσ40]; exact zq_up_ne (by omega)
        have t7 : σ27 147 0 = σ_2 147 0 := by rw [eσ27]; exact zq_up_ne (by omega)
        have t8 : σ_2 147 0 = σ 147 0 := hFσ_2 _ _ (zc_out_at zc_s147 rfl)
        have t9 := zc_g147_6 hσ40 zc_s147
        have t10 : σ40 147 6 = σ27 147 6 := by rw [eσ40]; exact zq_up_ne (by omega)
        have t11 : σ27 147 6 = 0 := by rw [eσ27]; exact zq_up_same _ _ _ _
        refine zr_callVv (pc := 45) hV [ZR 147] (st := []) (c_X3_doOn_T2 (σ := σ40) hσ40 order korder oo40 ok40 n40) dX10_perform_45 mX10_66 (zc_k4 korder) (zc_pos korder rfl) (by decide) (Nat.le_of_ble_eq_true rfl) (Nat.le_refl _) (fun σ45 pσ45 => ?_)
        obtain ⟨hσ45, hfσ45, pσ45, wσ45⟩ := pσ45
        have hFσ45 := zc_Fc hfσ45 rfl hFσ40
        have t12 := zc_g147_0 hσ40 zc_s147
        have t13 : σ40 147 0 = σ27 147 0 := by rw [eσ40]; exact zq_up_ne (by omega)
        have t14 : σ27 147 0 = σ_2 147 0 := by rw [eσ27]; exact zq_up_ne (by omega)
        have t15 : σ_2 147 0 = σ 147 0 := hFσ_2 _ _ (zc_out_at zc_s147 rfl)
        have t16 := zc_g4_4 hσ40 korder
        have t17 : σ40 order 4 = σ27 order 4 := by rw [eσ40]; exact zq_up_ne (zc_dk korder zc_s147 rfl)
        have t18 : σ27 order 4 = σ_2 order 4 := by rw [eσ27]; exact zq_up_ne (zc_dk korder zc_s147 rfl)
        have t19 : σ_2 order 4 = σ order 4 := hFσ_2 _ _ (zc_out_at korder rfl)
        have t20 := zc_g4_5 hσ40 korder
        have t21 : σ40 order 5 = σ27 order 5 := by rw [eσ40]; exact zq_up_ne (zc_dk korder zc_s147 rfl)
        have t22 : σ27 order 5 = σ_2 order 5 := by rw [eσ27]; exact zq_up_ne (zc_dk korder zc_s147 rfl)
        have t23 : σ_2 order 5 = σ order 5 := hFσ_2 _ _ (zc_out_at korder rfl)
        have t24 := zc_g4_6 hσ40 korder
        have t25 : σ40 order 6 = σ27 order 6 := by rw [eσ40]; exact zq_up_ne (zc_dk korder zc_s147 rfl)
        have t26 : σ27 order 6 = σ_2 order 6 := by rw [eσ27]; exact zq_up_ne (zc_dk korder zc_s147 rfl)
        have t27 : σ_2 order 6 = σ order 6 := hFσ_2 _ _ (zc_out_at korder rfl)
        have t28 := zc_g147_6 hσ45 zc_s147
        exact zr_vret (pc := 48) hV dX10_perform_48 rfl rfl ⟨rfl, hσ45, hFσ45, trivial, (show zw_cs σ45 147 = zw_do (σ45 150) (σ 147 0) (zw_ra σ order) 0 (σ order 4) (σ order 5) (σ order 6) (zw_up (zw_cs σ 147) 265 ((σ 147 4 + 1) % 64)) ∧ zw_ok (σ45 150) (zw_cs σ45 147) (σ 147 0) ∧ (∀ i, i < 264 → zw_un (σ45 151) (σ45 152) (σ45 147 6) (zw_cs σ45 147) i = zw_cs σ 147 i) ∧ (∀ j, 0 ≤ j → j < σ45 147 6 → 0 ≤ σ45 151 j ∧ σ45 151 j < 264) ∧ (∀ f, 0 ≤ f → f ≤ 3 → σ45 150 f = zu_cv σ order bits f) from (by have f45 : σ45 150 = σ40 150 := funext (fun i => hfσ45 150 i (zc_out_ar zc_s150 rfl)); have w := wσ45; unfold zq_hid at w; obtain ⟨w1, w2, w3⟩ := w; rw [ko, ho4, ho5, ho6, m40, hcs, ← f45] at w1; rw [m40, ← f45] at w2; exact ⟨w1, w2, fun i hi => (w3.1 i hi).trans (by rw [n40, zw_un_0, hcs]; show (if i = 265 then _ else _) = _; rw [if_neg (by omega)]), fun j j0 j1 => w3.2 (fun j j0 j1 => absurd j1 (by rw [n40]; omega)) j j0 j1, fun f f0 f3 => by rw [f45]; exact g40 f f0 f3⟩))⟩
      · show V 7 [some (ZR 147), some (ZR order), some (ZI bits), some (ZI x3_2)] [] 284 σ_2
        refine zr_aload_n (pc := 7) hV dX10_perform_7 rfl rfl ?_
        refine zr_getR (pc := 8) hV 5 150 dX10_perform_8 fX10_18 rfl rfl (zc_k147 zc_s147) (zc_pos zc_s147 rfl) (zc_g147_5 hσ_2 zc_s147) (by decide) ?_
        refine zr_iload_n (pc := 11) hV dX10_perform_11 rfl rfl ?_
        refine zr_aload_n (pc := 12) hV dX10_perform_12 rfl rfl ?_
        refine zr_iload_n (pc := 13) hV dX10_perform_13 rfl rfl ?_
        refine zr_iload_n (pc := 14) hV dX10_perform_14 rfl rfl ?_
        refine zr_callVp (pc := 15) hV [ZI bits, ZI x3_2] (st := [ZI x3_2, ZR 150]) (c_X3_fieldOf_2 (σ := σ_2) hσ_2 order korder bits x3_2 (by omega) (by omega)) dX10_perform_15 mX10_62 (zc_k4 korder) (zc_pos korder rfl) (by decide) (Nat.le_of_ble_eq_true rfl) (Nat.le_refl _) (fun r15 hr15 pr15 => ?_)
        refine zr_iast (pc := 18) hV dX10_perform_18 (zc_k150 zc_s150) (zc_pos zc_s150 rfl) rfl (by omega) (fun σ18 eσ18 => ?_)
        have hσ18 : zc_T σ18 := zc_ua150 eσ18 hσ_2 zc_s150 (by omega)
        have hFσ18 := zc_Fa eσ18 zc_s150 rfl hFσ_2
        refine zr_iinc (pc := 19) hV [some (ZR 147), some (ZR order), some (ZI bits), some (ZI (x3_2 + 1))] (x3_2 + 1) dX10_perform_19 rfl rfl (by decide) rfl rfl ?_
        refine zr_goto (pc := 22) hV 2 dX10_perform_22 (by decide) ?_
        have t29 := zc_g147_4 hσ18 zc_s147
        have t30 : σ18 147 4 = σ_2 147 4 := by rw [eσ18]; exact zq_up_ne (zc_dk zc_s147 zc_s150 rfl)
        exact ih2 (x3_2 + 1) σ18 (by omega) hσ18 hFσ18 (fun f f0 f1 => if hc : f = x3_2 then (by rw [hc, eσ18, zq_up_same]; have z := pr15.2; rw [hFσ_2 (order + 1) x3_2 (zc_out_ar (zc_p4_1 korder) rfl)] at z; exact z) else (by rw [eσ18, zq_up_ne (by omega)]; exact hi2_0 f f0 (by omega))) ((zw_cs_c (σ := σ_2) (fun i => by rw [eσ18, zq_up_ne (by omega)]) (fun i => by rw [eσ18, zq_up_ne (by omega)]) (by rw [eσ18, zq_up_ne (by omega)]) (by rw [eσ18, zq_up_ne (by omega)])).trans hi2_1) (by rw [eσ18, zq_up_ne (by omega)]; exact hi2_2) (by omega)
  have t31 := zc_g147_4 hσ zc_s147
  exact L2 (4 - (0 : Int) + 1 : Int).toNat 0 σ (by omega) hσ hFσ (fun f f0 f1 => absurd f1 (by omega)) rfl rfl (by omega)
