set_option maxHeartbeats 800000 in
theorem c_X10_wordIn {σ : zq_S} (hσ : zc_T σ) (f : Int) (q0 : 0 ≤ f ∧ f ≤ 3) : zq_C zc_w yX10_wordIn cX10_wordIn 2 (some .int) 0 0 284 284 [ZR 141, ZI f] σ (zq_pp σ (fun r => True)) := by
  refine zq_C_of (by decide) (Nat.le_refl _) (Nat.le_of_ble_eq_true rfl) [some (ZR 141), some (ZI f)] rfl (fun V hV => ?_)
  show V 0 [some (ZR 141), some (ZI f)] [] 284 σ
  refine zr_iload_n (pc := 0) hV dX10_wordIn_0 rfl rfl ?_
  refine zr_iconst (pc := 1) hV 3 dX10_wordIn_1 rfl ?_
  refine zr_icmp_ne (pc := 2) hV 14 dX10_wordIn_2 (by decide) (by omega) ⟨by decide, by decide⟩ (fun c1 => ?_) (fun c1 => ?_)
  · show V 14 [some (ZR 141), some (ZI f)] [] 284 σ
    refine zr_aload_n (pc := 14) hV dX10_wordIn_14 rfl rfl ?_
    refine zr_getR (pc := 15) hV 1 142 dX10_wordIn_15 fX10_11 rfl rfl (zc_k141 zc_s141) (zc_pos zc_s141 rfl) (zc_g141_1 hσ zc_s141) (by decide) ?_
    refine zr_aload_n (pc := 18) hV dX10_wordIn_18 rfl rfl ?_
    refine zr_getR (pc := 19) hV 5 144 dX10_wordIn_19 fX10_18 rfl rfl (zc_k141 zc_s141) (zc_pos zc_s141 rfl) (zc_g141_5 hσ zc_s141) (by decide) ?_
    refine zr_iload_n (pc := 22) hV dX10_wordIn_22 rfl rfl ?_
    refine zr_iald (pc := 23) hV dX10_wordIn_23 (zc_k144 zc_s144) (zc_pos zc_s144 rfl) rfl (by omega) ?_
    have t2 := zc_ga144 hσ zc_s144 f
    refine zr_bipush (pc := 24) hV 7 dX10_wordIn_24 (by decide) ?_
    refine zr_iand (pc := 26) hV dX10_wordIn_26 ?_
    have t3 := zq_and_mask (σ 144 f) 3 7 8 (by decide) (by decide) (by decide)
    refine zr_iald (pc := 27) hV dX10_wordIn_27 (zc_k142 zc_s142) (zc_pos zc_s142 rfl) rfl (by omega) ?_
    have t4 := zc_ga142 hσ zc_s142 (zq_and (σ 144 f) 7)
    show V 28 [some (ZR 141), some (ZI f)] [ZI (σ 142 (zq_and (σ 144 f) 7))] 284 σ
    exact zr_iret (pc := 28) hV dX10_wordIn_28 rfl rfl ⟨rfl, _, rfl, (by omega), trivial⟩
  · show V 5 [some (ZR 141), some (ZI f)] [] 284 σ
    refine zr_aload_n (pc := 5) hV dX10_wordIn_5 rfl rfl ?_
    refine zr_getR (pc := 6) hV 5 144 dX10_wordIn_6 fX10_18 rfl rfl (zc_k141 zc_s141) (zc_pos zc_s141 rfl) (zc_g141_5 hσ zc_s141) (by decide) ?_
    refine zr_iconst (pc := 9) hV 3 dX10_wordIn_9 rfl ?_
    refine zr_iald (pc := 10) hV dX10_wordIn_10 (zc_k144 zc_s144) (zc_pos zc_s144 rfl) rfl (by omega) ?_
    have t5 := zc_ga144 hσ zc_s144 3
    refine zr_goto (pc := 11) hV 28 dX10_wordIn_11 (by decide) ?_
    show V 28 [some (ZR 141), some (ZI f)] [ZI (σ 144 3)] 284 σ
    exact zr_iret (pc := 28) hV dX10_wordIn_28 rfl rfl ⟨rfl, _, rfl, (by omega), trivial⟩
set_option maxHeartbeats 800000 in
theorem c_X10_wordOf {σ : zq_S} (hσ : zc_T σ) (operand : Int) (q0 : 0 ≤ operand ∧ operand ≤ 271) (q1 : zc_op operand) : zq_C zc_w yX10_wordOf cX10_wordOf 2 (some .int) 1 21 284 284 [ZR 141, ZI operand] σ (zq_pp σ (fun r => True)) := by
  refine zq_C_of (by decide) (Nat.le_refl _) (Nat.le_of_ble_eq_true rfl) [some (ZR 141), some (ZI operand)] rfl (fun V hV => ?_)
  have uo : operand ≤ 9 ∨ 16 ≤ operand := q1
  show V 0 [some (ZR 141), some (ZI operand)] [] 284 σ
  refine zr_iload_n (pc := 0) hV dX10_wordOf_0 rfl rfl ?_
  refine zr_bipush (pc := 1) hV 16 dX10_wordOf_1 (by decide) ?_
  refine zr_icmp_lt (pc := 3) hV 16 dX10_wordOf_3 (by decide) (by omega) ⟨by decide, by decide⟩ (fun c1 => ?_) (fun c1 => ?_)
  · show V 16 [some (ZR 141), some (ZI operand)] [] 284 σ
    refine zr_iload_n (pc := 16) hV dX10_wordOf_16 rfl rfl ?_
    refine zr_bipush (pc := 17) hV 6 dX10_wordOf_17 (by decide) ?_
    refine zr_icmp_lt (pc := 19) hV 40 dX10_wordOf_19 (by decide) (by omega) ⟨by decide, by decide⟩ (fun c2 => ?_) (fun c2 => ?_)
    · show V 40 [some (ZR 141), some (ZI operand)] [] 284 σ
      refine zr_iload_n (pc := 40) hV dX10_wordOf_40 rfl rfl ?_
      by_cases c3 : operand = 4
      · refine zr_eqI (V := V) 4 c3 ?_
        refine zr_lookup (pc := 41) hV 68 dX10_wordOf_41 ⟨by decide, by decide⟩ (by decide) rfl (by decide) ?_
        show V 68 [some (ZR 141), some (ZI operand)] [] 284 σ
        refine zr_aload_n (pc := 68) hV dX10_wordOf_68 rfl rfl ?_
        refine zr_getI (pc := 69) hV 3 dX10_wordOf_69 fX10_35 rfl rfl (zc_k141 zc_s141) (zc_pos zc_s141 rfl) ?_
        have t4 := zc_g141_3 hσ zc_s141
        exact zr_iret (pc := 72) hV dX10_wordOf_72 rfl rfl ⟨rfl, _, rfl, (by omega), trivial⟩
      by_cases c5 : operand = 5
      · refine zr_eqI (V := V) 5 c5 ?_
        refine zr_lookup (pc := 41) hV 73 dX10_wordOf_41 ⟨by decide, by decide⟩ (by decide) rfl (by decide) ?_
        show V 73 [some (ZR 141), some (ZI operand)] [] 284 σ
        refine zr_aload_n (pc := 73) hV dX10_wordOf_73 rfl rfl ?_
        refine zr_getI (pc := 74) hV 4 dX10_wordOf_74 fX10_39 rfl rfl (zc_k141 zc_s141) (zc_pos zc_s141 rfl) ?_
        have t6 := zc_g141_4 hσ zc_s141
        refine zr_aload_n (pc := 77) hV dX10_wordOf_77 rfl rfl ?_
        refine zr_getI (pc := 78) hV 0 dX10_wordOf_78 fX10_48 rfl rfl (zc_k141 zc_s141) (zc_pos zc_s141 rfl) ?_
        have t7 := zc_g141_0 hσ zc_s141
        refine zr_iand (pc := 81) hV dX10_wordOf_81 ?_
        have t8 := zq_and_nnR (x := σ 141 4) (y := σ 141 0) (by omega)
        exact zr_iret (pc := 82) hV dX10_wordOf_82 rfl rfl ⟨rfl, _, rfl, (by omega), trivial⟩
      refine zr_lookup (pc := 41) (off := 42) hV 83 dX10_wordOf_41 (by omega) (by decide) (by simp only [Op.lookupswitch.offset]; repeat (split <;> try omega)) (by decide) ?_
      show V 83 [some (ZR 141), some (ZI operand)] [] 284 σ
      refine zr_aload_n (pc := 83) hV dX10_wordOf_83 rfl rfl ?_
      refine zr_iload_n (pc := 84) hV dX10_wordOf_84 rfl rfl ?_
      refine zr_callVp (pc := 85) hV [ZI operand] (st := []) (c_X10_wordIn (σ := σ) hσ operand (by omega)) dX10_wordOf_85 mX10_51 (zc_k141 zc_s141) (zc_pos zc_s141 rfl) (by decide) (Nat.le_of_ble_eq_true rfl) (Nat.le_refl _) (fun r85 hr85 pr85 => ?_)
      exact zr_iret (pc := 88) hV dX10_wordOf_88 rfl rfl ⟨rfl, _, rfl, (by omega), trivial⟩
    · show V 22 [some (ZR 141), some (ZI operand)] [] 284 σ
      refine zr_aload_n (pc := 22) hV dX10_wordOf_22 rfl rfl ?_
      refine zr_getR (pc := 23) hV 2 143 dX10_wordOf_23 fX10_15 rfl rfl (zc_k141 zc_s141) (zc_pos zc_s141 rfl) (zc_g141_2 hσ zc_s141) (by decide) ?_
      refine zr_aload_n (pc := 26) hV dX10_wordOf_26 rfl rfl ?_
      refine zr_iload_n (pc := 27) hV dX10_wordOf_27 rfl rfl ?_
      refine zr_bipush (pc := 28) hV 6 dX10_wordOf_28 (by decide) ?_
      refine zr_isub (pc := 30) hV dX10_wordOf_30 ?_
      refine zr_callVp (pc := 31) hV [ZI (operand - 6)] (st := [ZR 143]) (c_X10_wordIn (σ := σ) hσ (operand - 6) (by omega)) dX10_wordOf_31 mX10_51 (zc_k141 zc_s141) (zc_pos zc_s141 rfl) (by decide) (Nat.le_of_ble_eq_true rfl) (Nat.le_refl _) (fun r31 hr31 pr31 => ?_)
      refine zr_sipush (pc := 34) hV 255 dX10_wordOf_34 (by decide) ?_
      refine zr_iand (pc := 37) hV dX10_wordOf_37 ?_
      have t9 := zq_and_mask r31 8 255 256 (by decide) (by decide) (by decide)
      refine zr_iald (pc := 38) hV dX10_wordOf_38 (zc_k143 zc_s143) (zc_pos zc_s143 rfl) rfl (by omega) ?_
      have t10 := zc_ga143 hσ zc_s143 (zq_and r31 255)
      exact zr_iret (pc := 39) hV dX10_wordOf_39 rfl rfl ⟨rfl, _, rfl, (by omega), trivial⟩
  · show V 6 [some (ZR 141), some (ZI operand)] [] 284 σ
    refine zr_iload_n (pc := 6) hV dX10_wordOf_6 rfl rfl ?_
    refine zr_bipush (pc := 7) hV 16 dX10_wordOf_7 (by decide) ?_
    refine zr_isub (pc := 9) hV dX10_wordOf_9 ?_
    refine zr_aload_n (pc := 10) hV dX10_wordOf_10 rfl rfl ?_
    refine zr_getI (pc := 11) hV 0 dX10_wordOf_11 fX10_48 rfl rfl (zc_k141 zc_s141) (zc_pos zc_s141 rfl) ?_
    have t11 := zc_g141_0 hσ zc_s141
    refine zr_iand (pc := 14) hV dX10_wordOf_14 ?_
    have t12 := zq_and_nnR (x := operand - 16) (y := σ 141 0) (by omega)
    exact zr_iret (pc := 15) hV dX10_wordOf_15 rfl rfl ⟨rfl, _, rfl, (by omega), trivial⟩
set_option maxHeartbeats 800000 in
theorem c_X10_noteChange {σ : zq_S} (hσ : zc_T σ) (where_ : Int) (was : Int) (q0 : zq_in where_) (q1 : zq_in was) : zq_C zc_w yX10_noteChange cX10_noteChange 3 (none) 0 0 284 284 [ZR 141, ZI where_, ZI was] σ (zq_pv (fun τ => zc_T τ ∧ zc_Fr [(141, 6), (145, -1), (146, -1)] σ τ ∧ (True))) := by
  refine zq_C_of (by decide) (Nat.le_refl _) (Nat.le_of_ble_eq_true rfl) [some (ZR 141), some (ZI where_), some (ZI was)] rfl (fun V hV => ?_)
  have hFσ := zc_Fr_rf [(141, 6), (145, -1), (146, -1)] σ
  show V 0 [some (ZR 141), some (ZI where_), some (ZI was)] [] 284 σ
  refine zr_aload_n (pc := 0) hV dX10_noteChange_0 rfl rfl ?_
  refine zr_getI (pc := 1) hV 6 dX10_noteChange_1 fX10_59 rfl rfl (zc_k141 zc_s141) (zc_pos zc_s141 rfl) ?_
  have t1 := zc_g141_6 hσ zc_s141
  refine zr_iconst (pc := 4) hV 3 dX10_noteChange_4 rfl ?_
  refine zr_icmp_ge (pc := 5) hV 38 dX10_noteChange_5 (by decide) (by omega) ⟨by decide, by decide⟩ (fun c2 => ?_) (fun c2 => ?_)
  · show V 38 [some (ZR 141), some (ZI where_), some (ZI was)] [] 284 σ
    exact zr_vret (pc := 38) hV dX10_noteChange_38 rfl rfl ⟨rfl, hσ, hFσ, trivial⟩
  · show V 8 [some (ZR 141), some (ZI where_), some (ZI was)] [] 284 σ
    refine zr_aload_n (pc := 8) hV dX10_noteChange_8 rfl rfl ?_
    refine zr_getR (pc := 9) hV 7 145 dX10_noteChange_9 fX10_23 rfl rfl (zc_k141 zc_s141) (zc_pos zc_s141 rfl) (zc_g141_7 hσ zc_s141) (by decide) ?_
    refine zr_aload_n (pc := 12) hV dX10_noteChange_12 rfl rfl ?_
    refine zr_getI (pc := 13) hV 6 dX10_noteChange_13 fX10_59 rfl rfl (zc_k141 zc_s141) (zc_pos zc_s141 rfl) ?_
    have t3 := zc_g141_6 hσ zc_s141
    refine zr_iload_n (pc := 16) hV dX10_noteChange_16 rfl rfl ?_
    refine zr_iast (pc := 17) hV dX10_noteChange_17 (zc_k145 zc_s145) (zc_pos zc_s145 rfl) rfl (by omega) (fun σ17 eσ17 => ?_)
    have hσ17 : zc_T σ17 := zc_ua145 eσ17 hσ zc_s145 (by omega)
    have hFσ17 := zc_Fa eσ17 zc_s145 rfl hFσ
    refine zr_aload_n (pc := 18) hV dX10_noteChange_18 rfl rfl ?_
    refine zr_getR (pc := 19) hV 8 146 dX10_noteChange_19 fX10_26 rfl rfl (zc_k141 zc_s141) (zc_pos zc_s141 rfl) (zc_g141_8 hσ17 zc_s141) (by decide) ?_
    refine zr_aload_n (pc := 22) hV dX10_noteChange_22 rfl rfl ?_
    refine zr_getI (pc := 23) hV 6 dX10_noteChange_23 fX10_59 rfl rfl (zc_k141 zc_s141) (zc_pos zc_s141 rfl) ?_
    have t4 := zc_g141_6 hσ17 zc_s141
    have t5 : σ17 141 6 = σ 141 6 := by rw [eσ17]; exact zq_up_ne (zc_dk zc_s141 zc_s145 rfl)
    refine zr_iload_n (pc := 26) hV dX10_noteChange_26 rfl rfl ?_
    refine zr_iast (pc := 27) hV dX10_noteChange_27 (zc_k146 zc_s146) (zc_pos zc_s146 rfl) rfl (by omega) (fun σ27 eσ27 => ?_)
    have hσ27 : zc_T σ27 := zc_ua146 eσ27 hσ17 zc_s146 (by omega)
    have hFσ27 := zc_Fa eσ27 zc_s146 rfl hFσ17
    refine zr_aload_n (pc := 28) hV dX10_noteChange_28 rfl rfl ?_
    refine zr_dup (pc := 29) hV dX10_noteChange_29 (fun _ => rfl) ?_
    refine zr_getI (pc := 30) hV 6 dX10_noteChange_30 fX10_59 rfl rfl (zc_k141 zc_s141) (zc_pos zc_s141 rfl) ?_
    have t6 := zc_g141_6 hσ27 zc_s141
    have t7 : σ27 141 6 = σ17 141 6 := by rw [eσ27]; exact zq_up_ne (zc_dk zc_s141 zc_s146 rfl)
    have t8 : σ17 141 6 = σ 141 6 := by rw [eσ17]; exact zq_up_ne (zc_dk zc_s141 zc_s145 rfl)
    refine zr_iconst (pc := 33) hV 1 dX10_noteChange_33 rfl ?_
    refine zr_iadd (pc := 34) hV dX10_noteChange_34 ?_
    refine zr_putI (pc := 35) hV 6 dX10_noteChange_35 fX10_59 rfl rfl rfl (zc_k141 zc_s141) (zc_pos zc_s141 rfl) (fun σ35 eσ35 => ?_)
    have hσ35 : zc_T σ35 := zc_u141_6 eσ35 hσ27 zc_s141 (by omega)
    have hFσ35 := zc_Fw eσ35 zc_s141 rfl hFσ27
    show V 38 [some (ZR 141), some (ZI where_), some (ZI was)] [] 284 σ35
    exact zr_vret (pc := 38) hV dX10_noteChange_38 rfl rfl ⟨rfl, hσ35, hFσ35, trivial⟩
set_option maxHeartbeats 800000 in
theorem c_X10_become {σ : zq_S} (hσ : zc_T σ) (target : Int) (word : Int) (q0 : 0 ≤ target ∧ target ≤ 9) (q1 : zq_in word) : zq_C zc_w yX10_become cX10_become 4 (none) 1 22 284 284 [ZR 141, ZI target, ZI word] σ (zq_pv (fun τ => zc_T τ ∧ zc_Fr [(141, 3), (141, 4), (141, 6), (142, -1), (143, -1), (145, -1), (146, -1)] σ τ ∧ (True))) := by
  refine zq_C_of (by decide) (Nat.le_refl _) (Nat.le_of_ble_eq_true rfl) [some (ZR 141), some (ZI target), some (ZI word), none] rfl (fun V hV => ?_)
  have hFσ := zc_Fr_rf [(141, 3), (141, 4), (141, 6), (142, -1), (143, -1), (145, -1), (146, -1)] σ
  show V 0 [some (ZR 141), some (ZI target), some (ZI word), none] [] 284 σ
  refine zr_iload_n (pc := 0) hV dX10_become_0 rfl rfl ?_
  refine zr_iconst (pc := 1) hV 4 dX10_become_1 rfl ?_
  refine zr_icmp_ne (pc := 2) hV 21 dX10_become_2 (by decide) (by omega) ⟨by decide, by decide⟩ (fun c1 => ?_) (fun c1 => ?_)
  · show V 21 [some (ZR 141), some (ZI target), some (ZI word), none] [] 284 σ
    refine zr_iload_n (pc := 21) hV dX10_become_21 rfl rfl ?_
    refine zr_iconst (pc := 22) hV 5 dX10_become_22 rfl ?_
    refine zr_icmp_ne (pc := 23) hV 37 dX10_become_23 (by decide) (by omega) ⟨by decide, by decide⟩ (fun c2 => ?_) (fun c2 => ?_)
    · show V 37 [some (ZR 141), some (ZI target), some (ZI word), none] [] 284 σ
      refine zr_iload_n (pc := 37) hV dX10_become_37 rfl rfl ?_
      refine zr_bipush (pc := 38) hV 6 dX10_become_38 (by decide) ?_
      refine zr_icmp_lt (pc := 40) hV 80 dX10_become_40 (by decide) (by omega) ⟨by decide, by decide⟩ (fun c3 => ?_) (fun c3 => ?_)
      · show V 80 [some (ZR 141), some (ZI target), some (ZI word), none] [] 284 σ
        refine zr_aload_n (pc := 80) hV dX10_become_80 rfl rfl ?_
        refine zr_getR (pc := 81) hV 5 144 dX10_become_81 fX10_18 rfl rfl (zc_k141 zc_s141) (zc_pos zc_s141 rfl) (zc_g141_5 hσ zc_s141) (by decide) ?_
        refine zr_iload_n (pc := 84) hV dX10_become_84 rfl rfl ?_
        refine zr_iald (pc := 85) hV dX10_become_85 (zc_k144 zc_s144) (zc_pos zc_s144 rfl) rfl (by omega) ?_
        have t4 := zc_ga144 hσ zc_s144 target
        refine zr_bipush (pc := 86) hV 7 dX10_become_86 (by decide) ?_
        refine zr_iand (pc := 88) hV dX10_become_88 ?_
        have t5 := zq_and_mask (σ 144 target) 3 7 8 (by decide) (by decide) (by decide)
        refine zr_istore_n (pc := 89) hV [some (ZR 141), some (ZI target), some (ZI word), some (ZI (zq_and (σ 144 target) 7))] dX10_become_89 rfl (by decide) rfl rfl ?_
        refine zr_aload_n (pc := 90) hV dX10_become_90 rfl rfl ?_
        refine zr_iload_n (pc := 91) hV dX10_become_91 rfl rfl ?_
        refine zr_aload_n (pc := 92) hV dX10_become_92 rfl rfl ?_
        refine zr_getR (pc := 93) hV 1 142 dX10_become_93 fX10_11 rfl rfl (zc_k141 zc_s141) (zc_pos zc_s141 rfl) (zc_g141_1 hσ zc_s141) (by decide) ?_
        refine zr_iload_n (pc := 96) hV dX10_become_96 rfl rfl ?_
        refine zr_iald (pc := 97) hV dX10_become_97 (zc_k142 zc_s142) (zc_pos zc_s142 rfl) rfl (by omega) ?_
        have t6 := zc_ga142 hσ zc_s142 (zq_and (σ 144 target) 7)
        refine zr_callVv (pc := 98) hV [ZI (zq_and (σ 144 target) 7), ZI (σ 142 (zq_and (σ 144 target) 7))] (st := []) (c_X10_noteChange (σ := σ) hσ (zq_and (σ 144 target) 7) (σ 142 (zq_and (σ 144 target) 7)) (by omega) (by omega)) dX10_become_98 mX10_55 (zc_k141 zc_s141) (zc_pos zc_s141 rfl) (by decide) (Nat.le_of_ble_eq_true rfl) (Nat.le_refl _) (fun σ98 pσ98 => ?_)
        obtain ⟨hσ98, hfσ98, pσ98⟩ := pσ98
        have hFσ98 := zc_Fc hfσ98 rfl hFσ
        refine zr_aload_n (pc := 101) hV dX10_become_101 rfl rfl ?_
        refine zr_getR (pc := 102) hV 1 142 dX10_become_102 fX10_11 rfl rfl (zc_k141 zc_s141) (zc_pos zc_s141 rfl) (zc_g141_1 hσ98 zc_s141) (by decide) ?_
        refine zr_iload_n (pc := 105) hV dX10_become_105 rfl rfl ?_
        refine zr_iload_n (pc := 106) hV dX10_become_106 rfl rfl ?_
        refine zr_iast (pc := 107) hV dX10_become_107 (zc_k142 zc_s142) (zc_pos zc_s142 rfl) rfl (by omega) (fun σ107 eσ107 => ?_)
        have hσ107 : zc_T σ107 := zc_ua142 eσ107 hσ98 zc_s142 (by omega)
        have hFσ107 := zc_Fa eσ107 zc_s142 rfl hFσ98
        show V 108 [some (ZR 141), some (ZI target), some (ZI word), some (ZI (zq_and (σ 144 target) 7))] [] 284 σ107
        exact zr_vret (pc := 108) hV dX10_become_108 rfl rfl ⟨rfl, hσ107, hFσ107, trivial⟩
      · show V 43 [some (ZR 141), some (ZI target), some (ZI word), none] [] 284 σ
        refine zr_aload_n (pc := 43) hV dX10_become_43 rfl rfl ?_
        refine zr_iload_n (pc := 44) hV dX10_become_44 rfl rfl ?_
        refine zr_bipush (pc := 45) hV 6 dX10_become_45 (by decide) ?_
        refine zr_isub (pc := 47) hV dX10_become_47 ?_
        refine zr_callVp (pc := 48) hV [ZI (target - 6)] (st := []) (c_X10_wordIn (σ := σ) hσ (target - 6) (by omega)) dX10_become_48 mX10_51 (zc_k141 zc_s141) (zc_pos zc_s141 rfl) (by decide) (Nat.le_of_ble_eq_true rfl) (Nat.le_refl _) (fun r48 hr48 pr48 => ?_)
        refine zr_sipush (pc := 51) hV 255 dX10_become_51 (by decide) ?_
        refine zr_iand (pc := 54) hV dX10_become_54 ?_
        have t7 := zq_and_mask r48 8 255 256 (by decide) (by decide) (by decide)
        refine zr_istore_n (pc := 55) hV [some (ZR 141), some (ZI target), some (ZI word), some (ZI (zq_and r48 255))] dX10_become_55 rfl (by decide) rfl rfl ?_
        refine zr_aload_n (pc := 56) hV dX10_become_56 rfl rfl ?_
        refine zr_bipush (pc := 57) hV 8 dX10_become_57 (by decide) ?_
        refine zr_iload_n (pc := 59) hV dX10_become_59 rfl rfl ?_
        refine zr_iadd (pc := 60) hV dX10_become_60 ?_
        refine zr_aload_n (pc := 61) hV dX10_become_61 rfl rfl ?_
        refine zr_getR (pc := 62) hV 2 143 dX10_become_62 fX10_15 rfl rfl (zc_k141 zc_s141) (zc_pos zc_s141 rfl) (zc_g141_2 hσ zc_s141) (by decide) ?_
        refine zr_iload_n (pc := 65) hV dX10_become_65 rfl rfl ?_
        refine zr_iald (pc := 66) hV dX10_become_66 (zc_k143 zc_s143) (zc_pos zc_s143 rfl) rfl (by omega) ?_
        have t8 := zc_ga143 hσ zc_s143 (zq_and r48 255)
        refine zr_callVv (pc := 67) hV [ZI (8 + (zq_and r48 255)), ZI (σ 143 (zq_and r48 255))] (st := []) (c_X10_noteChange (σ := σ) hσ (8 + (zq_and r48 255)) (σ 143 (zq_and r48 255)) (by omega) (by omega)) dX10_become_67 mX10_55 (zc_k141 zc_s141) (zc_pos zc_s141 rfl) (by decide) (Nat.le_of_ble_eq_true rfl) (Nat.le_refl _) (fun σ67 pσ67 => ?_)
        obtain ⟨hσ67, hfσ67, pσ67⟩ := pσ67
        have hFσ67 := zc_Fc hfσ67 rfl hFσ
        refine zr_aload_n (pc := 70) hV dX10_become_70 rfl rfl ?_
        refine zr_getR (pc := 71) hV 2 143 dX10_become_71 fX10_15 rfl rfl (zc_k141 zc_s141) (zc_pos zc_s141 rfl) (zc_g141_2 hσ67 zc_s141) (by decide) ?_
        refine zr_iload_n (pc := 74) hV dX10_become_74 rfl rfl ?_
        refine zr_iload_n (pc := 75) hV dX10_become_75 rfl rfl ?_
        refine zr_iast (pc := 76) hV dX10_become_76 (zc_k143 zc_s143) (zc_pos zc_s143 rfl) rfl (by omega) (fun σ76 eσ76 => ?_)
        have hσ76 : zc_T σ76 := zc_ua143 eσ76 hσ67 zc_s143 (by omega)
        have hFσ76 := zc_Fa eσ76 zc_s143 rfl hFσ67
        refine zr_goto (pc := 77) hV 108 dX10_become_77 (by decide) ?_
        show V 108 [some (ZR 141), some (ZI target), some (ZI word), some (ZI (zq_and r48 255))] [] 284 σ76
        exact zr_vret (pc := 108) hV dX10_become_108 rfl rfl ⟨rfl, hσ76, hFσ76, trivial⟩
    · show V 26 [some (ZR 141), some (ZI target), some (ZI word), none] [] 284 σ
      refine zr_aload_n (pc := 26) hV dX10_become_26 rfl rfl ?_
      refine zr_iload_n (pc := 27) hV dX10_become_27 rfl rfl ?_
      refine zr_bipush (pc := 28) hV 63 dX10_become_28 (by decide) ?_
      refine zr_iand (pc := 30) hV dX10_become_30 ?_
      have t9 := zq_and_mask word 6 63 64 (by decide) (by decide) (by decide)
      refine zr_putI (pc := 31) hV 4 dX10_become_31 fX10_39 rfl rfl rfl (zc_k141 zc_s141) (zc_pos zc_s141 rfl) (fun σ31 eσ31 => ?_)
      have hσ31 : zc_T σ31 := zc_u141_4 eσ31 hσ zc_s141 (by omega)
      have hFσ31 := zc_Fw eσ31 zc_s141 rfl hFσ
      refine zr_goto (pc := 34) hV 108 dX10_become_34 (by decide) ?_
      show V 108 [some (ZR 141), some (ZI target), some (ZI word), none] [] 284 σ31
      exact zr_vret (pc := 108) hV dX10_become_108 rfl rfl ⟨rfl, hσ31, hFσ31, trivial⟩
  · show V 5 [some (ZR 141), some (ZI target), some (ZI word), none] [] 284 σ
    refine zr_aload_n (pc := 5) hV dX10_become_5 rfl rfl ?_
    refine zr_iload_n (pc := 6) hV dX10_become_6 rfl rfl ?_
    refine zr_if_ne (pc := 7) hV 14 dX10_become_7 (by decide) (by omega) (fun c10 => ?_) (fun c10 => ?_)
    · show V 14 [some (ZR 141), some (ZI target), some (ZI word), none] [ZR 141] 284 σ
      refine zr_iconst (pc := 14) hV 1 dX10_become_14 rfl ?_
      show V 15 [some (ZR 141), some (ZI target), some (ZI word), none] [ZI 1, ZR 141] 284 σ
      refine zr_putI (pc := 15) hV 3 dX10_become_15 fX10_35 rfl rfl rfl (zc_k141 zc_s141) (zc_pos zc_s141 rfl) (fun σ15 eσ15 => ?_)
      have hσ15 : zc_T σ15 := zc_u141_3 eσ15 hσ zc_s141 (by omega)
      have hFσ15 := zc_Fw eσ15 zc_s141 rfl hFσ
      refine zr_goto (pc := 18) hV 108 dX10_become_18 (by decide) ?_
      show V 108 [some (ZR 141), some (ZI target), some (ZI word), none] [] 284 σ15
      exact zr_vret (pc := 108) hV dX10_become_108 rfl rfl ⟨rfl, hσ15, hFσ15, trivial⟩
    · show V 10 [some (ZR 141), some (ZI target), some (ZI word), none] [ZR 141] 284 σ
      refine zr_iconst (pc := 10) hV 0 dX10_become_10 rfl ?_
      refine zr_goto (pc := 11) hV 15 dX10_become_11 (by decide) ?_
      show V 15 [some (ZR 141), some (ZI target), some (ZI word), none] [ZI 0, ZR 141] 284 σ
      refine zr_putI (pc := 15) hV 3 dX10_become_15 fX10_35 rfl rfl rfl (zc_k141 zc_s141) (zc_pos zc_s141 rfl) (fun σ15 eσ15 => ?_)
      have hσ15 : zc_T σ15 := zc_u141_3 eσ15 hσ zc_s141 (by omega)
      have hFσ15 := zc_Fw eσ15 zc_s141 rfl hFσ
      refine zr_goto (pc := 18) hV 108 dX10_become_18 (by decide) ?_
      show V 108 [some (ZR 141), some (ZI target), some (ZI word), none] [] 284 σ15
      exact zr_vret (pc := 108) hV dX10_become_108 rfl rfl ⟨rfl, hσ15, hFσ15, trivial⟩
set_option maxHeartbeats 800000 in
theorem c_X10_wordIn_t {σ : zq_S} (hσ : zc_T σ) (f : Int) (q0 : 0 ≤ f ∧ f ≤ 3) : zq_C zc_w yX10_wordIn cX10_wordIn 2 (some .int) 0 0 284 284 [ZR 147, ZI f] σ (zq_pp σ (fun r => True)) := by
  refine zq_C_of (by decide) (Nat.le_refl _) (Nat.le_of_ble_eq_true rfl) [some (ZR 147), some (ZI f)] rfl (fun V hV => ?_)
  show V 0 [some (ZR 147), some (ZI f)] [] 284 σ
  refine zr_iload_n (pc := 0) hV dX10_wordIn_0 rfl rfl ?_
  refine zr_iconst (pc := 1) hV 3 dX10_wordIn_1 rfl ?_
  refine zr_icmp_ne (pc := 2) hV 14 dX10_wordIn_2 (by decide) (by omega) ⟨by decide, by decide⟩ (fun c1 => ?_) (fun c1 => ?_)
  · show V 14 [some (ZR 147), some (ZI f)] [] 284 σ
    refine zr_aload_n (pc := 14) hV dX10_wordIn_14 rfl rfl ?_
    refine zr_getR (pc := 15) hV 1 148 dX10_wordIn_15 fX10_11 rfl rfl (zc_k147 zc_s147) (zc_pos zc_s147 rfl) (zc_g147_1 hσ zc_s147) (by decide) ?_
    refine zr_aload_n (pc := 18) hV dX10_wordIn_18 rfl rfl ?_
    refine zr_getR (pc := 19) hV 5 150 dX10_wordIn_19 fX10_18 rfl rfl (zc_k147 zc_s147) (zc_pos zc_s147 rfl) (zc_g147_5 hσ zc_s147) (by decide) ?_
    refine zr_iload_n (pc := 22) hV dX10_wordIn_22 rfl rfl ?_
    refine zr_iald (pc := 23) hV dX10_wordIn_23 (zc_k150 zc_s150) (zc_pos zc_s150 rfl) rfl (by omega) ?_
    have t2 := zc_ga150 hσ zc_s150 f
    refine zr_bipush (pc := 24) hV 7 dX10_wordIn_24 (by decide) ?_
    refine zr_iand (pc := 26) hV dX10_wordIn_26 ?_
    have t3 := zq_and_mask (σ 150 f) 3 7 8 (by decide) (by decide) (by decide)
    refine zr_iald (pc := 27) hV dX10_wordIn_27 (zc_k148 zc_s148) (zc_pos zc_s148 rfl) rfl (by omega) ?_
    have t4 := zc_ga148 hσ zc_s148 (zq_and (σ 150 f) 7)
    show V 28 [some (ZR 147), some (ZI f)] [ZI (σ 148 (zq_and (σ 150 f) 7))] 284 σ
    exact zr_iret (pc := 28) hV dX10_wordIn_28 rfl rfl ⟨rfl, _, rfl, (by omega), trivial⟩
  · show V 5 [some (ZR 147), some (ZI f)] [] 284 σ
    refine zr_aload_n (pc := 5) hV dX10_wordIn_5 rfl rfl ?_
    refine zr_getR (pc := 6) hV 5 150 dX10_wordIn_6 fX10_18 rfl rfl (zc_k147 zc_s147) (zc_pos zc_s147 rfl) (zc_g147_5 hσ zc_s147) (by decide) ?_
    refine zr_iconst (pc := 9) hV 3 dX10_wordIn_9 rfl ?_
    refine zr_iald (pc := 10) hV dX10_wordIn_10 (zc_k150 zc_s150) (zc_pos zc_s150 rfl) rfl (by omega) ?_
    have t5 := zc_ga150 hσ zc_s150 3
    refine zr_goto (pc := 11) hV 28 dX10_wordIn_11 (by decide) ?_
    show V 28 [some (ZR 147), some (ZI f)] [ZI (σ 150 3)] 284 σ
    exact zr_iret (pc := 28) hV dX10_wordIn_28 rfl rfl ⟨rfl, _, rfl, (by omega), trivial⟩
set_option maxHeartbeats 800000 in
theorem c_X10_wordOf_t {σ : zq_S} (hσ : zc_T σ) (operand : Int) (q0 : 0 ≤ operand ∧ operand ≤ 271) (q1 : zc_op operand) : zq_C zc_w yX10_wordOf cX10_wordOf 2 (some .int) 1 21 284 284 [ZR 147, ZI operand] σ (zq_pp σ (fun r => True)) := by
  refine zq_C_of (by decide) (Nat.le_refl _) (Nat.le_of_ble_eq_true rfl) [some (ZR 147), some (ZI operand)] rfl (fun V hV => ?_)
  have uo : operand ≤ 9 ∨ 16 ≤ operand := q1
  show V 0 [some (ZR 147), some (ZI operand)] [] 284 σ
  refine zr_iload_n (pc := 0) hV dX10_wordOf_0 rfl rfl ?_
  refine zr_bipush (pc := 1) hV 16 dX10_wordOf_1 (by decide) ?_
  refine zr_icmp_lt (pc := 3) hV 16 dX10_wordOf_3 (by decide) (by omega) ⟨by decide, by decide⟩ (fun c1 => ?_) (fun c1 => ?_)
  · show V 16 [some (ZR 147), some (ZI operand)] [] 284 σ
    refine zr_iload_n (pc := 16) hV dX10_wordOf_16 rfl rfl ?_
    refine zr_bipush (pc := 17) hV 6 dX10_wordOf_17 (by decide) ?_
    refine zr_icmp_lt (pc := 19) hV 40 dX10_wordOf_19 (by decide) (by omega) ⟨by decide, by decide⟩ (fun c2 => ?_) (fun c2 => ?_)
    · show V 40 [some (ZR 147), some (ZI operand)] [] 284 σ
      refine zr_iload_n (pc := 40) hV dX10_wordOf_40 rfl rfl ?_
      by_cases c3 : operand = 4
      · refine zr_eqI (V := V) 4 c3 ?_
        refine zr_lookup (pc := 41) hV 68 dX10_wordOf_41 ⟨by decide, by decide⟩ (by decide) rfl (by decide) ?_
        show V 68 [some (ZR 147), some (ZI operand)] [] 284 σ
        refine zr_aload_n (pc := 68) hV dX10_wordOf_68 rfl rfl ?_
        refine zr_getI (pc := 69) hV 3 dX10_wordOf_69 fX10_35 rfl rfl (zc_k147 zc_s147) (zc_pos zc_s147 rfl) ?_
        have t4 := zc_g147_3 hσ zc_s147
        exact zr_iret (pc := 72) hV dX10_wordOf_72 rfl rfl ⟨rfl, _, rfl, (by omega), trivial⟩
      by_cases c5 : operand = 5
      · refine zr_eqI (V := V) 5 c5 ?_
        refine zr_lookup (pc := 41) hV 73 dX10_wordOf_41 ⟨by decide, by decide⟩ (by decide) rfl (by decide) ?_
        show V 73 [some (ZR 147), some (ZI operand)] [] 284 σ
        refine zr_aload_n (pc := 73) hV dX10_wordOf_73 rfl rfl ?_
        refine zr_getI (pc := 74) hV 4 dX10_wordOf_74 fX10_39 rfl rfl (zc_k147 zc_s147) (zc_pos zc_s147 rfl) ?_
        have t6 := zc_g147_4 hσ zc_s147
        refine zr_aload_n (pc := 77) hV dX10_wordOf_77 rfl rfl ?_
        refine zr_getI (pc := 78) hV 0 dX10_wordOf_78 fX10_48 rfl rfl (zc_k147 zc_s147) (zc_pos zc_s147 rfl) ?_
        have t7 := zc_g147_0 hσ zc_s147
        refine zr_iand (pc := 81) hV dX10_wordOf_81 ?_
        have t8 := zq_and_nnR (x := σ 147 4) (y := σ 147 0) (by omega)
        exact zr_iret (pc := 82) hV dX10_wordOf_82 rfl rfl ⟨rfl, _, rfl, (by omega), trivial⟩
      refine zr_lookup (pc := 41) (off := 42) hV 83 dX10_wordOf_41 (by omega) (by decide) (by simp only [Op.lookupswitch.offset]; repeat (split <;> try omega)) (by decide) ?_
      show V 83 [some (ZR 147), some (ZI operand)] [] 284 σ
      refine zr_aload_n (pc := 83) hV dX10_wordOf_83 rfl rfl ?_
      refine zr_iload_n (pc := 84) hV dX10_wordOf_84 rfl rfl ?_
      refine zr_callVp (pc := 85) hV [ZI operand] (st := []) (c_X10_wordIn_t (σ := σ) hσ operand (by omega)) dX10_wordOf_85 mX10_51 (zc_k147 zc_s147) (zc_pos zc_s147 rfl) (by decide) (Nat.le_of_ble_eq_true rfl) (Nat.le_refl _) (fun r85 hr85 pr85 => ?_)
      exact zr_iret (pc := 88) hV dX10_wordOf_88 rfl rfl ⟨rfl, _, rfl, (by omega), trivial⟩
    · show V 22 [some (ZR 147), some (ZI operand)] [] 284 σ
      refine zr_aload_n (pc := 22) hV dX10_wordOf_22 rfl rfl ?_
      refine zr_getR (pc := 23) hV 2 149 dX10_wordOf_23 fX10_15 rfl rfl (zc_k147 zc_s147) (zc_pos zc_s147 rfl) (zc_g147_2 hσ zc_s147) (by decide) ?_
      refine zr_aload_n (pc := 26) hV dX10_wordOf_26 rfl rfl ?_
      refine zr_iload_n (pc := 27) hV dX10_wordOf_27 rfl rfl ?_
      refine zr_bipush (pc := 28) hV 6 dX10_wordOf_28 (by decide) ?_
      refine zr_isub (pc := 30) hV dX10_wordOf_30 ?_
      refine zr_callVp (pc := 31) hV [ZI (operand - 6)] (st := [ZR 149]) (c_X10_wordIn_t (σ := σ) hσ (operand - 6) (by omega)) dX10_wordOf_31 mX10_51 (zc_k147 zc_s147) (zc_pos zc_s147 rfl) (by decide) (Nat.le_of_ble_eq_true rfl) (Nat.le_refl _) (fun r31 hr31 pr31 => ?_)
      refine zr_sipush (pc := 34) hV 255 dX10_wordOf_34 (by decide) ?_
      refine zr_iand (pc := 37) hV dX10_wordOf_37 ?_
      have t9 := zq_and_mask r31 8 255 256 (by decide) (by decide) (by decide)
      refine zr_iald (pc := 38) hV dX10_wordOf_38 (zc_k149 zc_s149) (zc_pos zc_s149 rfl) rfl (by omega) ?_
      have t10 := zc_ga149 hσ zc_s149 (zq_and r31 255)
      exact zr_iret (pc := 39) hV dX10_wordOf_39 rfl rfl ⟨rfl, _, rfl, (by omega), trivial⟩
  · show V 6 [some (ZR 147), some (ZI operand)] [] 284 σ
    refine zr_iload_n (pc := 6) hV dX10_wordOf_6 rfl rfl ?_
    refine zr_bipush (pc := 7) hV 16 dX10_wordOf_7 (by decide) ?_
    refine zr_isub (pc := 9) hV dX10_wordOf_9 ?_
    refine zr_aload_n (pc := 10) hV dX10_wordOf_10 rfl rfl ?_
    refine zr_getI (pc := 11) hV 0 dX10_wordOf_11 fX10_48 rfl rfl (zc_k147 zc_s147) (zc_pos zc_s147 rfl) ?_
    have t11 := zc_g147_0 hσ zc_s147
    refine zr_iand (pc := 14) hV dX10_wordOf_14 ?_
    have t12 := zq_and_nnR (x := operand - 16) (y := σ 147 0) (by omega)
    exact zr_iret (pc := 15) hV dX10_wordOf_15 rfl rfl ⟨rfl, _, rfl, (by omega), trivial⟩
set_option maxHeartbeats 800000 in
theorem c_X10_noteChange_t {σ : zq_S} (hσ : zc_T σ) (where_ : Int) (was : Int) (q0 : zq_in where_) (q1 : zq_in was) : zq_C zc_w yX10_noteChange cX10_noteChange 3 (none) 0 0 284 284 [ZR 147, ZI where_, ZI was] σ (zq_pv (fun τ => zc_T τ ∧ zc_Fr [(147, 6), (151, -1), (152, -1)] σ τ ∧ (True))) := by
  refine zq_C_of (by decide) (Nat.le_refl _) (Nat.le_of_ble_eq_true rfl) [some (ZR 147), some (ZI where_), some (ZI was)] rfl (fun V hV => ?_)
  have hFσ := zc_Fr_rf [(147, 6), (151, -1), (152, -1)] σ
  show V 0 [some (ZR 147), some (ZI where_), some (ZI was)] [] 284 σ
  refine zr_aload_n (pc := 0) hV dX10_noteChange_0 rfl rfl ?_
  refine zr_getI (pc := 1) hV 6 dX10_noteChange_1 fX10_59 rfl rfl (zc_k147 zc_s147) (zc_pos zc_s147 rfl) ?_
  have t1 := zc_g147_6 hσ zc_s147
  refine zr_iconst (pc := 4) hV 3 dX10_noteChange_4 rfl ?_
  refine zr_icmp_ge (pc := 5) hV 38 dX10_noteChange_5 (by decide) (by omega) ⟨by decide, by decide⟩ (fun c2 => ?_) (fun c2 => ?_)
  · show V 38 [some (ZR 147), some (ZI where_), some (ZI was)] [] 284 σ
    exact zr_vret (pc := 38) hV dX10_noteChange_38 rfl rfl ⟨rfl, hσ, hFσ, trivial⟩
  · show V 8 [some (ZR 147), some (ZI where_), some (ZI was)] [] 284 σ
    refine zr_aload_n (pc := 8) hV dX10_noteChange_8 rfl rfl ?_
    refine zr_getR (pc := 9) hV 7 151 dX10_noteChange_9 fX10_23 rfl rfl (zc_k147 zc_s147) (zc_pos zc_s147 rfl) (zc_g147_7 hσ zc_s147) (by decide) ?_
    refine zr_aload_n (pc := 12) hV dX10_noteChange_12 rfl rfl ?_
    refine zr_getI (pc := 13) hV 6 dX10_noteChange_13 fX10_59 rfl rfl (zc_k147 zc_s147) (zc_pos zc_s147 rfl) ?_
    have t3 := zc_g147_6 hσ zc_s147
    refine zr_iload_n (pc := 16) hV dX10_noteChange_16 rfl rfl ?_
    refine zr_iast (pc := 17) hV dX10_noteChange_17 (zc_k151 zc_s151) (zc_pos zc_s151 rfl) rfl (by omega) (fun σ17 eσ17 => ?_)
    have hσ17 : zc_T σ17 := zc_ua151 eσ17 hσ zc_s151 (by omega)
    have hFσ17 := zc_Fa eσ17 zc_s151 rfl hFσ
    refine zr_aload_n (pc := 18) hV dX10_noteChange_18 rfl rfl ?_
    refine zr_getR (pc := 19) hV 8 152 dX10_noteChange_19 fX10_26 rfl rfl (zc_k147 zc_s147) (zc_pos zc_s147 rfl) (zc_g147_8 hσ17 zc_s147) (by decide) ?_
    refine zr_aload_n (pc := 22) hV dX10_noteChange_22 rfl rfl ?_
    refine zr_getI (pc := 23) hV 6 dX10_noteChange_23 fX10_59 rfl rfl (zc_k147 zc_s147) (zc_pos zc_s147 rfl) ?_
    have t4 := zc_g147_6 hσ17 zc_s147
    have t5 : σ17 147 6 = σ 147 6 := by rw [eσ17]; exact zq_up_ne (zc_dk zc_s147 zc_s151 rfl)
    refine zr_iload_n (pc := 26) hV dX10_noteChange_26 rfl rfl ?_
    refine zr_iast (pc := 27) hV dX10_noteChange_27 (zc_k152 zc_s152) (zc_pos zc_s152 rfl) rfl (by omega) (fun σ27 eσ27 => ?_)
    have hσ27 : zc_T σ27 := zc_ua152 eσ27 hσ17 zc_s152 (by omega)
    have hFσ27 := zc_Fa eσ27 zc_s152 rfl hFσ17
    refine zr_aload_n (pc := 28) hV dX10_noteChange_28 rfl rfl ?_
    refine zr_dup (pc := 29) hV dX10_noteChange_29 (fun _ => rfl) ?_
    refine zr_getI (pc := 30) hV 6 dX10_noteChange_30 fX10_59 rfl rfl (zc_k147 zc_s147) (zc_pos zc_s147 rfl) ?_
    have t6 := zc_g147_6 hσ27 zc_s147
    have t7 : σ27 147 6 = σ17 147 6 := by rw [eσ27]; exact zq_up_ne (zc_dk zc_s147 zc_s152 rfl)
    have t8 : σ17 147 6 = σ 147 6 := by rw [eσ17]; exact zq_up_ne (zc_dk zc_s147 zc_s151 rfl)
    refine zr_iconst (pc := 33) hV 1 dX10_noteChange_33 rfl ?_
    refine zr_iadd (pc := 34) hV dX10_noteChange_34 ?_
    refine zr_putI (pc := 35) hV 6 dX10_noteChange_35 fX10_59 rfl rfl rfl (zc_k147 zc_s147) (zc_pos zc_s147 rfl) (fun σ35 eσ35 => ?_)
    have hσ35 : zc_T σ35 := zc_u147_6 eσ35 hσ27 zc_s147 (by omega)
    have hFσ35 := zc_Fw eσ35 zc_s147 rfl hFσ27
    show V 38 [some (ZR 147), some (ZI where_), some (ZI was)] [] 284 σ35
    exact zr_vret (pc := 38) hV dX10_noteChange_38 rfl rfl ⟨rfl, hσ35, hFσ35, trivial⟩
set_option maxHeartbeats 800000 in
theorem c_X10_become_t {σ : zq_S} (hσ : zc_T σ) (target : Int) (word : Int) (q0 : 0 ≤ target ∧ target ≤ 9) (q1 : zq_in word) : zq_C zc_w yX10_become cX10_become 4 (none) 1 22 284 284 [ZR 147, ZI target, ZI word] σ (zq_pv (fun τ => zc_T τ ∧ zc_Fr [(147, 3), (147, 4), (147, 6), (148, -1), (149, -1), (151, -1), (152, -1)] σ τ ∧ (True))) := by
  refine zq_C_of (by decide) (Nat.le_refl _) (Nat.le_of_ble_eq_true rfl) [some (ZR 147), some (ZI target), some (ZI word), none] rfl (fun V hV => ?_)
  have hFσ := zc_Fr_rf [(147, 3), (147, 4), (147, 6), (148, -1), (149, -1), (151, -1), (152, -1)] σ
  show V 0 [some (ZR 147), some (ZI target), some (ZI word), none] [] 284 σ
  refine zr_iload_n (pc := 0) hV dX10_become_0 rfl rfl ?_
  refine zr_iconst (pc := 1) hV 4 dX10_become_1 rfl ?_
  refine zr_icmp_ne (pc := 2) hV 21 dX10_become_2 (by decide) (by omega) ⟨by decide, by decide⟩ (fun c1 => ?_) (fun c1 => ?_)
  · show V 21 [some (ZR 147), some (ZI target), some (ZI word), none] [] 284 σ
    refine zr_iload_n (pc := 21) hV dX10_become_21 rfl rfl ?_
    refine zr_iconst (pc := 22) hV 5 dX10_become_22 rfl ?_
    refine zr_icmp_ne (pc := 23) hV 37 dX10_become_23 (by decide) (by omega) ⟨by decide, by decide⟩ (fun c2 => ?_) (fun c2 => ?_)
    · show V 37 [some (ZR 147), some (ZI target), some (ZI word), none] [] 284 σ
      refine zr_iload_n (pc := 37) hV dX10_become_37 rfl rfl ?_
      refine zr_bipush (pc := 38) hV 6 dX10_become_38 (by decide) ?_
      refine zr_icmp_lt (pc := 40) hV 80 dX10_become_40 (by decide) (by omega) ⟨by decide, by decide⟩ (fun c3 => ?_) (fun c3 => ?_)
      · show V 80 [some (ZR 147), some (ZI target), some (ZI word), none] [] 284 σ
        refine zr_aload_n (pc := 80) hV dX10_become_80 rfl rfl ?_
        refine zr_getR (pc := 81) hV 5 150 dX10_become_81 fX10_18 rfl rfl (zc_k147 zc_s147) (zc_pos zc_s147 rfl) (zc_g147_5 hσ zc_s147) (by decide) ?_
        refine zr_iload_n (pc := 84) hV dX10_become_84 rfl rfl ?_
        refine zr_iald (pc := 85) hV dX10_become_85 (zc_k150 zc_s150) (zc_pos zc_s150 rfl) rfl (by omega) ?_
        have t4 := zc_ga150 hσ zc_s150 target
        refine zr_bipush (pc := 86) hV 7 dX10_become_86 (by decide) ?_
        refine zr_iand (pc := 88) hV dX10_become_88 ?_
        have t5 := zq_and_mask (σ 150 target) 3 7 8 (by decide) (by decide) (by decide)
        refine zr_istore_n (pc := 89) hV [some (ZR 147), some (ZI target), some (ZI word), some (ZI (zq_and (σ 150 target) 7))] dX10_become_89 rfl (by decide) rfl rfl ?_
        refine zr_aload_n (pc := 90) hV dX10_become_90 rfl rfl ?_
        refine zr_iload_n (pc := 91) hV dX10_become_91 rfl rfl ?_
        refine zr_aload_n (pc := 92) hV dX10_become_92 rfl rfl ?_
        refine zr_getR (pc := 93) hV 1 148 dX10_become_93 fX10_11 rfl rfl (zc_k147 zc_s147) (zc_pos zc_s147 rfl) (zc_g147_1 hσ zc_s147) (by decide) ?_
        refine zr_iload_n (pc := 96) hV dX10_become_96 rfl rfl ?_
        refine zr_iald (pc := 97) hV dX10_become_97 (zc_k148 zc_s148) (zc_pos zc_s148 rfl) rfl (by omega) ?_
        have t6 := zc_ga148 hσ zc_s148 (zq_and (σ 150 target) 7)
        refine zr_callVv (pc := 98) hV [ZI (zq_and (σ 150 target) 7), ZI (σ 148 (zq_and (σ 150 target) 7))] (st := []) (c_X10_noteChange_t (σ := σ) hσ (zq_and (σ 150 target) 7) (σ 148 (zq_and (σ 150 target) 7)) (by omega) (by omega)) dX10_become_98 mX10_55 (zc_k147 zc_s147) (zc_pos zc_s147 rfl) (by decide) (Nat.le_of_ble_eq_true rfl) (Nat.le_refl _) (fun σ98 pσ98 => ?_)
        obtain ⟨hσ98, hfσ98, pσ98⟩ := pσ98
        have hFσ98 := zc_Fc hfσ98 rfl hFσ
        refine zr_aload_n (pc := 101) hV dX10_become_101 rfl rfl ?_
        refine zr_getR (pc := 102) hV 1 148 dX10_become_102 fX10_11 rfl rfl (zc_k147 zc_s147) (zc_pos zc_s147 rfl) (zc_g147_1 hσ98 zc_s147) (by decide) ?_
        refine zr_iload_n (pc := 105) hV dX10_become_105 rfl rfl ?_
        refine zr_iload_n (pc := 106) hV dX10_become_106 rfl rfl ?_
        refine zr_iast (pc := 107) hV dX10_become_107 (zc_k148 zc_s148) (zc_pos zc_s148 rfl) rfl (by omega) (fun σ107 eσ107 => ?_)
        have hσ107 : zc_T σ107 := zc_ua148 eσ107 hσ98 zc_s148 (by omega)
        have hFσ107 := zc_Fa eσ107 zc_s148 rfl hFσ98
        show V 108 [some (ZR 147), some (ZI target), some (ZI word), some (ZI (zq_and (σ 150 target) 7))] [] 284 σ107
        exact zr_vret (pc := 108) hV dX10_become_108 rfl rfl ⟨rfl, hσ107, hFσ107, trivial⟩
      · show V 43 [some (ZR 147), some (ZI target), some (ZI word), none] [] 284 σ
        refine zr_aload_n (pc := 43) hV dX10_become_43 rfl rfl ?_
        refine zr_iload_n (pc := 44) hV dX10_become_44 rfl rfl ?_
        refine zr_bipush (pc := 45) hV 6 dX10_become_45 (by decide) ?_
        refine zr_isub (pc := 47) hV dX10_become_47 ?_
        refine zr_callVp (pc := 48) hV [ZI (target - 6)] (st := []) (c_X10_wordIn_t (σ := σ) hσ (target - 6) (by omega)) dX10_become_48 mX10_51 (zc_k147 zc_s147) (zc_pos zc_s147 rfl) (by decide) (Nat.le_of_ble_eq_true rfl) (Nat.le_refl _) (fun r48 hr48 pr48 => ?_)
        refine zr_sipush (pc := 51) hV 255 dX10_become_51 (by decide) ?_
        refine zr_iand (pc := 54) hV dX10_become_54 ?_
        have t7 := zq_and_mask r48 8 255 256 (by decide) (by decide) (by decide)
        refine zr_istore_n (pc := 55) hV [some (ZR 147), some (ZI target), some (ZI word), some (ZI (zq_and r48 255))] dX10_become_55 rfl (by decide) rfl rfl ?_
        refine zr_aload_n (pc := 56) hV dX10_become_56 rfl rfl ?_
        refine zr_bipush (pc := 57) hV 8 dX10_become_57 (by decide) ?_
        refine zr_iload_n (pc := 59) hV dX10_become_59 rfl rfl ?_
        refine zr_iadd (pc := 60) hV dX10_become_60 ?_
        refine zr_aload_n (pc := 61) hV dX10_become_61 rfl rfl ?_
        refine zr_getR (pc := 62) hV 2 149 dX10_become_62 fX10_15 rfl rfl (zc_k147 zc_s147) (zc_pos zc_s147 rfl) (zc_g147_2 hσ zc_s147) (by decide) ?_
        refine zr_iload_n (pc := 65) hV dX10_become_65 rfl rfl ?_
        refine zr_iald (pc := 66) hV dX10_become_66 (zc_k149 zc_s149) (zc_pos zc_s149 rfl) rfl (by omega) ?_
        have t8 := zc_ga149 hσ zc_s149 (zq_and r48 255)
        refine zr_callVv (pc := 67) hV [ZI (8 + (zq_and r48 255)), ZI (σ 149 (zq_and r48 255))] (st := []) (c_X10_noteChange_t (σ := σ) hσ (8 + (zq_and r48 255)) (σ 149 (zq_and r48 255)) (by omega) (by omega)) dX10_become_67 mX10_55 (zc_k147 zc_s147) (zc_pos zc_s147 rfl) (by decide) (Nat.le_of_ble_eq_true rfl) (Nat.le_refl _) (fun σ67 pσ67 => ?_)
        obtain ⟨hσ67, hfσ67, pσ67⟩ := pσ67
        have hFσ67 := zc_Fc hfσ67 rfl hFσ
        refine zr_aload_n (pc := 70) hV dX10_become_70 rfl rfl ?_
        refine zr_getR (pc := 71) hV 2 149 dX10_become_71 fX10_15 rfl rfl (zc_k147 zc_s147) (zc_pos zc_s147 rfl) (zc_g147_2 hσ67 zc_s147) (by decide) ?_
        refine zr_iload_n (pc := 74) hV dX10_become_74 rfl rfl ?_
        refine zr_iload_n (pc := 75) hV dX10_become_75 rfl rfl ?_
        refine zr_iast (pc := 76) hV dX10_become_76 (zc_k149 zc_s149) (zc_pos zc_s149 rfl) rfl (by omega) (fun σ76 eσ76 => ?_)
        have hσ76 : zc_T σ76 := zc_ua149 eσ76 hσ67 zc_s149 (by omega)
        have hFσ76 := zc_Fa eσ76 zc_s149 rfl hFσ67
        refine zr_goto (pc := 77) hV 108 dX10_become_77 (by decide) ?_
        show V 108 [some (ZR 147), some (ZI target), some (ZI word), some (ZI (zq_and r48 255))] [] 284 σ76
        exact zr_vret (pc := 108) hV dX10_become_108 rfl rfl ⟨rfl, hσ76, hFσ76, trivial⟩
    · show V 26 [some (ZR 147), some (ZI target), some (ZI word), none] [] 284 σ
      refine zr_aload_n (pc := 26) hV dX10_become_26 rfl rfl ?_
      refine zr_iload_n (pc := 27) hV dX10_become_27 rfl rfl ?_
      refine zr_bipush (pc := 28) hV 63 dX10_become_28 (by decide) ?_
      refine zr_iand (pc := 30) hV dX10_become_30 ?_
      have t9 := zq_and_mask word 6 63 64 (by decide) (by decide) (by decide)
      refine zr_putI (pc := 31) hV 4 dX10_become_31 fX10_39 rfl rfl rfl (zc_k147 zc_s147) (zc_pos zc_s147 rfl) (fun σ31 eσ31 => ?_)
      have hσ31 : zc_T σ31 := zc_u147_4 eσ31 hσ zc_s147 (by omega)
      have hFσ31 := zc_Fw eσ31 zc_s147 rfl hFσ
      refine zr_goto (pc := 34) hV 108 dX10_become_34 (by decide) ?_
      show V 108 [some (ZR 147), some (ZI target), some (ZI word), none] [] 284 σ31
      exact zr_vret (pc := 108) hV dX10_become_108 rfl rfl ⟨rfl, hσ31, hFσ31, trivial⟩
  · show V 5 [some (ZR 147), some (ZI target), some (ZI word), none] [] 284 σ
    refine zr_aload_n (pc := 5) hV dX10_become_5 rfl rfl ?_
    refine zr_iload_n (pc := 6) hV dX10_become_6 rfl rfl ?_
    refine zr_if_ne (pc := 7) hV 14 dX10_become_7 (by decide) (by omega) (fun c10 => ?_) (fun c10 => ?_)
    · show V 14 [some (ZR 147), some (ZI target), some (ZI word), none] [ZR 147] 284 σ
      refine zr_iconst (pc := 14) hV 1 dX10_become_14 rfl ?_
      show V 15 [some (ZR 147), some (ZI target), some (ZI word), none] [ZI 1, ZR 147] 284 σ
      refine zr_putI (pc := 15) hV 3 dX10_become_15 fX10_35 rfl rfl rfl (zc_k147 zc_s147) (zc_pos zc_s147 rfl) (fun σ15 eσ15 => ?_)
      have hσ15 : zc_T σ15 := zc_u147_3 eσ15 hσ zc_s147 (by omega)
      have hFσ15 := zc_Fw eσ15 zc_s147 rfl hFσ
      refine zr_goto (pc := 18) hV 108 dX10_become_18 (by decide) ?_
      show V 108 [some (ZR 147), some (ZI target), some (ZI word), none] [] 284 σ15
      exact zr_vret (pc := 108) hV dX10_become_108 rfl rfl ⟨rfl, hσ15, hFσ15, trivial⟩
    · show V 10 [some (ZR 147), some (ZI target), some (ZI word), none] [ZR 147] 284 σ
      refine zr_iconst (pc := 10) hV 0 dX10_become_10 rfl ?_
      refine zr_goto (pc := 11) hV 15 dX10_become_11 (by decide) ?_
      show V 15 [some (ZR 147), some (ZI target), some (ZI word), none] [ZI 0, ZR 147] 284 σ
      refine zr_putI (pc := 15) hV 3 dX10_become_15 fX10_35 rfl rfl rfl (zc_k147 zc_s147) (zc_pos zc_s147 rfl) (fun σ15 eσ15 => ?_)
      have hσ15 : zc_T σ15 := zc_u147_3 eσ15 hσ zc_s147 (by omega)
      have hFσ15 := zc_Fw eσ15 zc_s147 rfl hFσ
      refine zr_goto (pc := 18) hV 108 dX10_become_18 (by decide) ?_
      show V 108 [some (ZR 147), some (ZI target), some (ZI word), none] [] 284 σ15
      exact zr_vret (pc := 108) hV dX10_become_108 rfl rfl ⟨rfl, hσ15, hFσ15, trivial⟩
set_option maxHeartbeats 800000 in
theorem c_X3_doOn_W {σ : zq_S} (hσ : zc_T σ) (this : Int) (kthis : zc_kd this = 4)  : zq_C zc_w yX3_doOn cX3_doOn 4 (none) 3 65 284 284 [ZR this, ZR 141] σ (zq_pv (fun τ => zc_T τ ∧ zc_Fr [(141, 3), (141, 4), (141, 6), (142, -1), (143, -1), (145, -1), (146, -1)] σ τ ∧ (True))) := by
  refine zq_C_of (by decide) (Nat.le_refl _) (Nat.le_of_ble_eq_true rfl) [some (ZR this), some (ZR 141), none, none] rfl (fun V hV => ?_)
  have pothis := zc_pos kthis rfl
  have hFσ := zc_Fr_rf [(141, 3), (141, 4), (141, 6), (142, -1), (143, -1), (145, -1), (146, -1)] σ
  show V 0 [some (ZR this), some (ZR 141), none, none] [] 284 σ
  refine zr_aload_n (pc := 0) hV dX3_doOn_0 rfl rfl ?_
  refine zr_getI (pc := 1) hV 4 dX3_doOn_1 fX3_43 rfl rfl (zc_k4 kthis) (zc_pos kthis rfl) ?_
  have t1 := zc_g4_4 hσ kthis
  refine zr_if_eq (pc := 4) hV 40 dX3_doOn_4 (by decide) (by omega) (fun c2 => ?_) (fun c2 => ?_)
  · show V 40 [some (ZR this), some (ZR 141), none, none] [] 284 σ
    refine zr_iconst (pc := 40) hV 0 dX3_doOn_40 rfl ?_
    refine zr_istore_n (pc := 41) hV [some (ZR this), some (ZR 141), some (ZI 0), none] dX3_doOn_41 rfl (by decide) rfl rfl ?_
    have L42 : ∀ (fuel : Nat) (x2_42 : Int) (σ_42 : zq_S), (0 ≤ x2_42 ∧ x2_42 ≤ 3) → (zc_T σ_42) → (zc_Fr [(141, 3), (141, 4), (141, 6), (142, -1), (143, -1), (145, -1), (146, -1)] σ σ_42) → 3 - x2_42 < (fuel : Int) → V 42 [some (ZR this), some (ZR 141), some (ZI x2_42), none] [] 284 σ_42 := by
      intro fuel
      induction fuel with
      | zero =>
        intro x2_42 σ_42 hx2_42 hσ_42 hFσ_42 hm42
        exfalso; omega
      | succ fuel ih =>
        intro x2_42 σ_42 hx2_42 hσ_42 hFσ_42 hm42
        have ih42 := ih
        show V 42 [some (ZR this), some (ZR 141), some (ZI x2_42), none] [] 284 σ_42
        refine zr_iload_n (pc := 42) hV dX3_doOn_42 rfl rfl ?_
        refine zr_aload_n (pc := 43) hV dX3_doOn_43 rfl rfl ?_
        refine zr_getI (pc := 44) hV 6 dX3_doOn_44 fX3_49 rfl rfl (zc_k4 kthis) (zc_pos kthis rfl) ?_
        have t3 := zc_g4_6 hσ_42 kthis
        have t4 : σ_42 this 6 = σ this 6 := hFσ_42 _ _ (zc_out_at kthis rfl)
        refine zr_icmp_ge (pc := 47) hV 112 dX3_doOn_47 (by decide) (by omega) (by omega) (fun c5 => ?_) (fun c5 => ?_)
        · show V 112 [some (ZR this), some (ZR 141), some (ZI x2_42), none] [] 284 σ_42
          exact zr_vret (pc := 112) hV dX3_doOn_112 rfl rfl ⟨rfl, hσ_42, hFσ_42, trivial⟩
        · show V 50 [some (ZR this), some (ZR 141), some (ZI x2_42), none] [] 284 σ_42
          refine zr_aload_n (pc := 50) hV dX3_doOn_50 rfl rfl ?_
          refine zr_aload_n (pc := 51) hV dX3_doOn_51 rfl rfl ?_
          refine zr_getR (pc := 52) hV 8 (this + 3) dX3_doOn_52 fX3_18 rfl rfl (zc_k4 kthis) (zc_pos kthis rfl) (zc_g4_8 hσ_42 kthis) (zc_pos (zc_p4_3 kthis) rfl).1 ?_
          refine zr_iload_n (pc := 55) hV dX3_doOn_55 rfl rfl ?_
          refine zr_iald (pc := 56) hV dX3_doOn_56 (zc_k7 (zc_p4_3 kthis)) (zc_pos (zc_p4_3 kthis) rfl) rfl (by omega) ?_
          have t6 := zc_ga7 hσ_42 (zc_p4_3 kthis) x2_42
          have t7 : σ_42 (this + 3) x2_42 = σ (this + 3) x2_42 := hFσ_42 _ _ (zc_out_ar (zc_p4_3 kthis) rfl)
          refine zr_callUp (pc := 57) hV [ZI (σ_42 (this + 3) x2_42)] (st := []) (c_X10_wordOf (σ := σ_42) hσ_42 (σ_42 (this + 3) x2_42) (by omega) (zc_ga7 hσ_42 (zc_p4_3 kthis) _).2.2) dX3_doOn_57 mX3_102_10 (zc_k141 zc_s141) (zc_pos zc_s141 rfl) (by decide) (Nat.le_of_ble_eq_true rfl) (Nat.le_refl _) (fun r57 hr57 pr57 => ?_)
          refine zr_istore_n (pc := 60) hV [some (ZR this), some (ZR 141), some (ZI x2_42), some (ZI r57)] dX3_doOn_60 rfl (by decide) rfl rfl ?_
          refine zr_aload_n (pc := 61) hV dX3_doOn_61 rfl rfl ?_
          refine zr_getR (pc := 62) hV 9 (this + 4) dX3_doOn_62 fX3_21 rfl rfl (zc_k4 kthis) (zc_pos kthis rfl) (zc_g4_9 hσ_42 kthis) (zc_pos (zc_p4_4 kthis) rfl).1 ?_
          refine zr_iload_n (pc := 65) hV dX3_doOn_65 rfl rfl ?_
          refine zr_iald (pc := 66) hV dX3_doOn_66 (zc_k8 (zc_p4_4 kthis)) (zc_pos (zc_p4_4 kthis) rfl) rfl (by omega) ?_
          have t8 := zc_ga8 hσ_42 (zc_p4_4 kthis) x2_42
          have t9 : σ_42 (this + 4) x2_42 = σ (this + 4) x2_42 := hFσ_42 _ _ (zc_out_ar (zc_p4_4 kthis) rfl)
          refine zr_if_eq (pc := 67) hV 95 dX3_doOn_67 (by decide) (by omega) (fun c10 => ?_) (fun c10 => ?_)
          · show V 95 [some (ZR this), some (ZR 141), some (ZI x2_42), some (ZI r57)] [] 284 σ_42
            refine zr_aload_n (pc := 95) hV dX3_doOn_95 rfl rfl ?_
            refine zr_aload_n (pc := 96) hV dX3_doOn_96 rfl rfl ?_
            refine zr_getR (pc := 97) hV 7 (this + 2) dX3_doOn_97 fX3_15 rfl rfl (zc_k4 kthis) (zc_pos kthis rfl) (zc_g4_7 hσ_42 kthis) (zc_pos (zc_p4_2 kthis) rfl).1 ?_
            refine zr_iload_n (pc := 100) hV dX3_doOn_100 rfl rfl ?_
            refine zr_iald (pc := 101) hV dX3_doOn_101 (zc_k6 (zc_p4_2 kthis)) (zc_pos (zc_p4_2 kthis) rfl) rfl (by omega) ?_
            have t11 := zc_ga6 hσ_42 (zc_p4_2 kthis) x2_42
            have t12 : σ_42 (this + 2) x2_42 = σ (this + 2) x2_42 := hFσ_42 _ _ (zc_out_ar (zc_p4_2 kthis) rfl)
            refine zr_iload_n (pc := 102) hV dX3_doOn_102 rfl rfl ?_
            refine zr_callUv (pc := 103) hV [ZI (σ_42 (this + 2) x2_42), ZI r57] (st := []) (c_X10_become (σ := σ_42) hσ_42 (σ_42 (this + 2) x2_42) r57 (by omega) (by omega)) dX3_doOn_103 mX3_114_10 (zc_k141 zc_s141) (zc_pos zc_s141 rfl) (by decide) (Nat.le_of_ble_eq_true rfl) (Nat.le_refl _) (fun σ103 pσ103 => ?_)
            obtain ⟨hσ103, hfσ103, pσ103⟩ := pσ103
            have hFσ103 := zc_Fc hfσ103 rfl hFσ_42
            refine zr_iinc (pc := 106) hV [some (ZR this), some (ZR 141), some (ZI (x2_42 + 1)), some (ZI r57)] (x2_42 + 1) dX3_doOn_106 rfl rfl (by decide) rfl rfl ?_
            refine zr_goto (pc := 109) hV 42 dX3_doOn_109 (by decide) ?_
            refine zr_sub (pc := 42) hV [some (ZR this), some (ZR 141), some (ZI (x2_42 + 1)), none] (⟨rfl, rfl, rfl, trivial⟩) ?_
            exact ih42 (x2_42 + 1) σ103 (by omega) hσ103 hFσ103 (by omega)
          · show V 70 [some (ZR this), some (ZR 141), some (ZI x2_42), some (ZI r57)] [] 284 σ_42
            refine zr_aload_n (pc := 70) hV dX3_doOn_70 rfl rfl ?_
            refine zr_getR (pc := 71) hV 9 (this + 4) dX3_doOn_71 fX3_21 rfl rfl (zc_k4 kthis) (zc_pos kthis rfl) (zc_g4_9 hσ_42 kthis) (zc_pos (zc_p4_4 kthis) rfl).1 ?_
            refine zr_iload_n (pc := 74) hV dX3_doOn_74 rfl rfl ?_
            refine zr_iald (pc := 75) hV dX3_doOn_75 (zc_k8 (zc_p4_4 kthis)) (zc_pos (zc_p4_4 kthis) rfl) rfl (by omega) ?_
            have t13 := zc_ga8 hσ_42 (zc_p4_4 kthis) x2_42
            have t14 : σ_42 (this + 4) x2_42 = σ (this + 4) x2_42 := hFσ_42 _ _ (zc_out_ar (zc_p4_4 kthis) rfl)
            refine zr_iload_n (pc := 76) hV dX3_doOn_76 rfl rfl ?_
            refine zr_aload_n (pc := 77) hV dX3_doOn_77 rfl rfl ?_
            refine zr_aload_n (pc := 78) hV dX3_doOn_78 rfl rfl ?_
            refine zr_getR (pc := 79) hV 10 (this + 5) dX3_doOn_79 fX3_24 rfl rfl (zc_k4 kthis) (zc_pos kthis rfl) (zc_g4_10 hσ_42 kthis) (zc_pos (zc_p4_5 kthis) rfl).1 ?_
            refine zr_iload_n (pc := 82) hV dX3_doOn_82 rfl rfl ?_
            refine zr_iald (pc := 83) hV dX3_doOn_83 (zc_k9 (zc_p4_5 kthis)) (zc_pos (zc_p4_5 kthis) rfl) rfl (by omega) ?_
            have t15 := zc_ga9 hσ_42 (zc_p4_5 kthis) x2_42
            have t16 : σ_42 (this + 5) x2_42 = σ (this + 5) x2_42 := hFσ_42 _ _ (zc_out_ar (zc_p4_5 kthis) rfl)
            refine zr_callUp (pc := 84) hV [ZI (σ_42 (this + 5) x2_42)] (st := [ZI r57, ZI (σ_42 (this + 4) x2_42)]) (c_X10_wordOf (σ := σ_42) hσ_42 (σ_42 (this + 5) x2_42) (by omega) (zc_ga9 hσ_42 (zc_p4_5 kthis) _).2.2) dX3_doOn_84 mX3_102_10 (zc_k141 zc_s141) (zc_pos zc_s141 rfl) (by decide) (Nat.le_of_ble_eq_true rfl) (Nat.le_refl _) (fun r84 hr84 pr84 => ?_)
            refine zr_aload_n (pc := 87) hV dX3_doOn_87 rfl rfl ?_
            refine zr_getI (pc := 88) hV 0 dX3_doOn_88 fX3_107_10 rfl rfl (zc_k141 zc_s141) (zc_pos zc_s141 rfl) ?_
            have t17 := zc_g141_0 hσ_42 zc_s141
            have t18 : σ_42 141 0 = σ 141 0 := hFσ_42 _ _ (zc_out_at zc_s141 rfl)
            have t19 := zc_g141_0 hσ_42 zc_s141
            have t20 : σ_42 141 0 = σ 141 0 := hFσ_42 _ _ (zc_out_at zc_s141 rfl)
            refine zr_callSp (pc := 91) hV [ZI (σ_42 (this + 4) x2_42), ZI r57, ZI r84, ZI (σ_42 141 0)] (st := []) (c_X3_combine (σ := σ_42) (σ_42 (this + 4) x2_42) r57 r84 (σ_42 141 0) (by omega) (by omega) (by omega) (by omega)) dX3_doOn_91 mX3_110 (by decide) (Nat.le_of_ble_eq_true rfl) (Nat.le_refl _) (fun r91 hr91 pr91 => ?_)
            refine zr_istore_n (pc := 94) hV [some (ZR this), some (ZR 141), some (ZI x2_42), some (ZI r91)] dX3_doOn_94 rfl (by decide) rfl rfl ?_
            show V 95 [some (ZR this), some (ZR 141), some (ZI x2_42), some (ZI r91)] [] 284 σ_42
            refine zr_aload_n (pc := 95) hV dX3_doOn_95 rfl rfl ?_
            refine zr_aload_n (pc := 96) hV dX3_doOn_96 rfl rfl ?_
            refine zr_getR (pc := 97) hV 7 (this + 2) dX3_doOn_97 fX3_15 rfl rfl (zc_k4 kthis) (zc_pos kthis rfl) (zc_g4_7 hσ_42 kthis) (zc_pos (zc_p4_2 kthis) rfl).1 ?_
            refine zr_iload_n (pc := 100) hV dX3_doOn_100 rfl rfl ?_
            refine zr_iald (pc := 101) hV dX3_doOn_101 (zc_k6 (zc_p4_2 kthis)) (zc_pos (zc_p4_2 kthis) rfl) rfl (by omega) ?_
            have t21 := zc_ga6 hσ_42 (zc_p4_2 kthis) x2_42
            have t22 : σ_42 (this + 2) x2_42 = σ (this + 2) x2_42 := hFσ_42 _ _ (zc_out_ar (zc_p4_2 kthis) rfl)
            refine zr_iload_n (pc := 102) hV dX3_doOn_102 rfl rfl ?_
            refine zr_callUv (pc := 103) hV [ZI (σ_42 (this + 2) x2_42), ZI r91] (st := []) (c_X10_become (σ := σ_42) hσ_42 (σ_42 (this + 2) x2_42) r91 (by omega) (by omega)) dX3_doOn_103 mX3_114_10 (zc_k141 zc_s141) (zc_pos zc_s141 rfl) (by decide) (Nat.le_of_ble_eq_true rfl) (Nat.le_refl _) (fun σ103 pσ103 => ?_)
            obtain ⟨hσ103, hfσ103, pσ103⟩ := pσ103
            have hFσ103 := zc_Fc hfσ103 rfl hFσ_42
            refine zr_iinc (pc := 106) hV [some (ZR this), some (ZR 141), some (ZI (x2_42 + 1)), some (ZI r91)] (x2_42 + 1) dX3_doOn_106 rfl rfl (by decide) rfl rfl ?_
            refine zr_goto (pc := 109) hV 42 dX3_doOn_109 (by decide) ?_
            refine zr_sub (pc := 42) hV [some (ZR this), some (ZR 141), some (ZI (x2_42 + 1)), none] (⟨rfl, rfl, rfl, trivial⟩) ?_
            exact ih42 (x2_42 + 1) σ103 (by omega) hσ103 hFσ103 (by omega)
    exact L42 (3 - (0 : Int) + 1 : Int).toNat 0 σ (by omega) hσ hFσ (by omega)
  · show V 7 [some (ZR this), some (ZR 141), none, none] [] 284 σ
    refine zr_aload_n (pc := 7) hV dX3_doOn_7 rfl rfl ?_
    refine zr_aload_n (pc := 8) hV dX3_doOn_8 rfl rfl ?_
    refine zr_getI (pc := 9) hV 5 dX3_doOn_9 fX3_46 rfl rfl (zc_k4 kthis) (zc_pos kthis rfl) ?_
    have t23 := zc_g4_5 hσ kthis
    have t24 := zc_g4_5 hσ kthis
    have t25 := zc_g4_5 hσ kthis
    refine zr_callUp (pc := 12) hV [ZI (σ this 5)] (st := []) (c_X10_wordOf (σ := σ) hσ (σ this 5) (by omega) (Or.inl (by omega))) dX3_doOn_12 mX3_102_10 (zc_k141 zc_s141) (zc_pos zc_s141 rfl) (by decide) (Nat.le_of_ble_eq_true rfl) (Nat.le_refl _) (fun r12 hr12 pr12 => ?_)
    refine zr_if_eq (pc := 15) hV 22 dX3_doOn_15 (by decide) (by omega) (fun c26 => ?_) (fun c26 => ?_)
    · show V 22 [some (ZR this), some (ZR 141), none, none] [] 284 σ
      refine zr_iconst (pc := 22) hV 0 dX3_doOn_22 rfl ?_
      show V 23 [some (ZR this), some (ZR 141), none, none] [ZI 0] 284 σ
      refine zr_aload_n (pc := 23) hV dX3_doOn_23 rfl rfl ?_
      refine zr_getI (pc := 24) hV 4 dX3_doOn_24 fX3_43 rfl rfl (zc_k4 kthis) (zc_pos kthis rfl) ?_
      have t27 := zc_g4_4 hσ kthis
      refine zr_iconst (pc := 27) hV 1 dX3_doOn_27 rfl ?_
      refine zr_icmp_ne (pc := 28) hV 35 dX3_doOn_28 (by decide) (by omega) ⟨by decide, by decide⟩ (fun c28 => ?_) (fun c28 => ?_)
      · show V 35 [some (ZR this), some (ZR 141), none, none] [ZI 0] 284 σ
        refine zr_iconst (pc := 35) hV 0 dX3_doOn_35 rfl ?_
        show V 36 [some (ZR this), some (ZR 141), none, none] [ZI 0, ZI 0] 284 σ
        refine zr_icmp_eq (pc := 36) hV 40 dX3_doOn_36 (by decide) ⟨by decide, by decide⟩ ⟨by decide, by decide⟩ (fun c29 => ?_) (fun c29 => ?_)
        · show V 40 [some (ZR this), some (ZR 141), none, none] [] 284 σ
          refine zr_iconst (pc := 40) hV 0 dX3_doOn_40 rfl ?_
          refine zr_istore_n (pc := 41) hV [some (ZR this), some (ZR 141), some (ZI 0), none] dX3_doOn_41 rfl (by decide) rfl rfl ?_
          have L42 : ∀ (fuel : Nat) (x2_42 : Int) (σ_42 : zq_S), (0 ≤ x2_42 ∧ x2_42 ≤ 3) → (zc_T σ_42) → (zc_Fr [(141, 3), (141, 4), (141, 6), (142, -1), (143, -1), (145, -1), (146, -1)] σ σ_42) → 3 - x2_42 < (fuel : Int) → V 42 [some (ZR this), some (ZR 141), some (ZI x2_42), none] [] 284 σ_42 := by
            intro fuel
            induction fuel with
            | zero =>
              intro x2_42 σ_42 hx2_42 hσ_42 hFσ_42 hm42
              exfalso; omega
            | succ fuel ih =>
              intro x2_42 σ_42 hx2_42 hσ_42 hFσ_42 hm42
              have ih42 := ih
              show V 42 [some (ZR this), some (ZR 141), some (ZI x2_42), none] [] 284 σ_42
              refine zr_iload_n (pc := 42) hV dX3_doOn_42 rfl rfl ?_
              refine zr_aload_n (pc := 43) hV dX3_doOn_43 rfl rfl ?_
              refine zr_getI (pc := 44) hV 6 dX3_doOn_44 fX3_49 rfl rfl (zc_k4 kthis) (zc_pos kthis rfl) ?_
              have t30 := zc_g4_6 hσ_42 kthis
              have t31 : σ_42 this 6 = σ this 6 := hFσ_42 _ _ (zc_out_at kthis rfl)
              refine zr_icmp_ge (pc := 47) hV 112 dX3_doOn_47 (by decide) (by omega) (by omega) (fun c32 => ?_) (fun c32 => ?_)
              · show V 112 [some (ZR this), some (ZR 141), some (ZI x2_42), none] [] 284 σ_42
                exact zr_vret (pc := 112) hV dX3_doOn_112 rfl rfl ⟨rfl, hσ_42, hFσ_42, trivial⟩
              · show V 50 [some (ZR this), some (ZR 141), some (ZI x2_42), none] [] 284 σ_42
                refine zr_aload_n (pc := 50) hV dX3_doOn_50 rfl rfl ?_
                refine zr_aload_n (pc := 51) hV dX3_doOn_51 rfl rfl ?_
                refine zr_getR (pc := 52) hV 8 (this + 3) dX3_doOn_52 fX3_18 rfl rfl (zc_k4 kthis) (zc_pos kthis rfl) (zc_g4_8 hσ_42 kthis) (zc_pos (zc_p4_3 kthis) rfl).1 ?_
                refine zr_iload_n (pc := 55) hV dX3_doOn_55 rfl rfl ?_
                refine zr_iald (pc := 56) hV dX3_doOn_56 (zc_k7 (zc_p4_3 kthis)) (zc_pos (zc_p4_3 kthis) rfl) rfl (by omega) ?_
                have t33 := zc_ga7 hσ_42 (zc_p4_3 kthis) x2_42
                have t34 : σ_42 (this + 3) x2_42 = σ (this + 3) x2_42 := hFσ_42 _ _ (zc_out_ar (zc_p4_3 kthis) rfl)
                refine zr_callUp (pc := 57) hV [ZI (σ_42 (this + 3) x2_42)] (st := []) (c_X10_wordOf (σ := σ_42) hσ_42 (σ_42 (this + 3) x2_42) (by omega) (zc_ga7 hσ_42 (zc_p4_3 kthis) _).2.2) dX3_doOn_57 mX3_102_10 (zc_k141 zc_s141) (zc_pos zc_s141 rfl) (by decide) (Nat.le_of_ble_eq_true rfl) (Nat.le_refl _) (fun r57 hr57 pr57 => ?_)
                refine zr_istore_n (pc := 60) hV [some (ZR this), some (ZR 141), some (ZI x2_42), some (ZI r57)] dX3_doOn_60 rfl (by decide) rfl rfl ?_
                refine zr_aload_n (pc := 61) hV dX3_doOn_61 rfl rfl ?_
                refine zr_getR (pc := 62) hV 9 (this + 4) dX3_doOn_62 fX3_21 rfl rfl (zc_k4 kthis) (zc_pos kthis rfl) (zc_g4_9 hσ_42 kthis) (zc_pos (zc_p4_4 kthis) rfl).1 ?_
                refine zr_iload_n (pc := 65) hV dX3_doOn_65 rfl rfl ?_
                refine zr_iald (pc := 66) hV dX3_doOn_66 (zc_k8 (zc_p4_4 kthis)) (zc_pos (zc_p4_4 kthis) rfl) rfl (by omega) ?_
                have t35 := zc_ga8 hσ_42 (zc_p4_4 kthis) x2_42
                have t36 : σ_42 (this + 4) x2_42 = σ (this + 4) x2_42 := hFσ_42 _ _ (zc_out_ar (zc_p4_4 kthis) rfl)
                refine zr_if_eq (pc := 67) hV 95 dX3_doOn_67 (by decide) (by omega) (fun c37 => ?_) (fun c37 => ?_)
                · show V 95 [some (ZR this), some (ZR 141), some (ZI x2_42), some (ZI r57)] [] 284 σ_42
                  refine zr_aload_n (pc := 95) hV dX3_doOn_95 rfl rfl ?_
                  refine zr_aload_n (pc := 96) hV dX3_doOn_96 rfl rfl ?_
                  refine zr_getR (pc := 97) hV 7 (this + 2) dX3_doOn_97 fX3_15 rfl rfl (zc_k4 kthis) (zc_pos kthis rfl) (zc_g4_7 hσ_42 kthis) (zc_pos (zc_p4_2 kthis) rfl).1 ?_
                  refine zr_iload_n (pc := 100) hV dX3_doOn_100 rfl rfl ?_
                  refine zr_iald (pc := 101) hV dX3_doOn_101 (zc_k6 (zc_p4_2 kthis)) (zc_pos (zc_p4_2 kthis) rfl) rfl (by omega) ?_
                  have t38 := zc_ga6 hσ_42 (zc_p4_2 kthis) x2_42
                  have t39 : σ_42 (this + 2) x2_42 = σ (this + 2) x2_42 := hFσ_42 _ _ (zc_out_ar (zc_p4_2 kthis) rfl)
                  refine zr_iload_n (pc := 102) hV dX3_doOn_102 rfl rfl ?_
                  refine zr_callUv (pc := 103) hV [ZI (σ_42 (this + 2) x2_42), ZI r57] (st := []) (c_X10_become (σ := σ_42) hσ_42 (σ_42 (this + 2) x2_42) r57 (by omega) (by omega)) dX3_doOn_103 mX3_114_10 (zc_k141 zc_s141) (zc_pos zc_s141 rfl) (by decide) (Nat.le_of_ble_eq_true rfl) (Nat.le_refl _) (fun σ103 pσ103 => ?_)
                  obtain ⟨hσ103, hfσ103, pσ103⟩ := pσ103
                  have hFσ103 := zc_Fc hfσ103 rfl hFσ_42
                  refine zr_iinc (pc := 106) hV [some (ZR this), some (ZR 141), some (ZI (x2_42 + 1)), some (ZI r57)] (x2_42 + 1) dX3_doOn_106 rfl rfl (by decide) rfl rfl ?_
                  refine zr_goto (pc := 109) hV 42 dX3_doOn_109 (by decide) ?_
                  refine zr_sub (pc := 42) hV [some (ZR this), some (ZR 141), some (ZI (x2_42 + 1)), none] (⟨rfl, rfl, rfl, trivial⟩) ?_
                  exact ih42 (x2_42 + 1) σ103 (by omega) hσ103 hFσ103 (by omega)
                · show V 70 [some (ZR this), some (ZR 141), some (ZI x2_42), some (ZI r57)] [] 284 σ_42
                  refine zr_aload_n (pc := 70) hV dX3_doOn_70 rfl rfl ?_
                  refine zr_getR (pc := 71) hV 9 (this + 4) dX3_doOn_71 fX3_21 rfl rfl (zc_k4 kthis) (zc_pos kthis rfl) (zc_g4_9 hσ_42 kthis) (zc_pos (zc_p4_4 kthis) rfl).1 ?_
                  refine zr_iload_n (pc := 74) hV dX3_doOn_74 rfl rfl ?_
                  refine zr_iald (pc := 75) hV dX3_doOn_75 (zc_k8 (zc_p4_4 kthis)) (zc_pos (zc_p4_4 kthis) rfl) rfl (by omega) ?_
                  have t40 := zc_ga8 hσ_42 (zc_p4_4 kthis) x2_42
                  have t41 : σ_42 (this + 4) x2_42 = σ (this + 4) x2_42 := hFσ_42 _ _ (zc_out_ar (zc_p4_4 kthis) rfl)
                  refine zr_iload_n (pc := 76) hV dX3_doOn_76 rfl rfl ?_
                  refine zr_aload_n (pc := 77) hV dX3_doOn_77 rfl rfl ?_
                  refine zr_aload_n (pc := 78) hV dX3_doOn_78 rfl rfl ?_
                  refine zr_getR (pc := 79) hV 10 (this + 5) dX3_doOn_79 fX3_24 rfl rfl (zc_k4 kthis) (zc_pos kthis rfl) (zc_g4_10 hσ_42 kthis) (zc_pos (zc_p4_5 kthis) rfl).1 ?_
                  refine zr_iload_n (pc := 82) hV dX3_doOn_82 rfl rfl ?_
                  refine zr_iald (pc := 83) hV dX3_doOn_83 (zc_k9 (zc_p4_5 kthis)) (zc_pos (zc_p4_5 kthis) rfl) rfl (by omega) ?_
                  have t42 := zc_ga9 hσ_42 (zc_p4_5 kthis) x2_42
                  have t43 : σ_42 (this + 5) x2_42 = σ (this + 5) x2_42 := hFσ_42 _ _ (zc_out_ar (zc_p4_5 kthis) rfl)
                  refine zr_callUp (pc := 84) hV [ZI (σ_42 (this + 5) x2_42)] (st := [ZI r57, ZI (σ_42 (this + 4) x2_42)]) (c_X10_wordOf (σ := σ_42) hσ_42 (σ_42 (this + 5) x2_42) (by omega) (zc_ga9 hσ_42 (zc_p4_5 kthis) _).2.2) dX3_doOn_84 mX3_102_10 (zc_k141 zc_s141) (zc_pos zc_s141 rfl) (by decide) (Nat.le_of_ble_eq_true rfl) (Nat.le_refl _) (fun r84 hr84 pr84 => ?_)
                  refine zr_aload_n (pc := 87) hV dX3_doOn_87 rfl rfl ?_
                  refine zr_getI (pc := 88) hV 0 dX3_doOn_88 fX3_107_10 rfl rfl (zc_k141 zc_s141) (zc_pos zc_s141 rfl) ?_
                  have t44 := zc_g141_0 hσ_42 zc_s141
                  have t45 : σ_42 141 0 = σ 141 0 := hFσ_42 _ _ (zc_out_at zc_s141 rfl)
                  have t46 := zc_g141_0 hσ_42 zc_s141
                  have t47 : σ_42 141 0 = σ 141 0 := hFσ_42 _ _ (zc_out_at zc_s141 rfl)
                  refine zr_callSp (pc := 91) hV [ZI (σ_42 (this + 4) x2_42), ZI r57, ZI r84, ZI (σ_42 141 0)] (st := []) (c_X3_combine (σ := σ_42) (σ_42 (this + 4) x2_42) r57 r84 (σ_42 141 0) (by omega) (by omega) (by omega) (by omega)) dX3_doOn_91 mX3_110 (by decide) (Nat.le_of_ble_eq_true rfl) (Nat.le_refl _) (fun r91 hr91 pr91 => ?_)
                  refine zr_istore_n (pc := 94) hV [some (ZR this), some (ZR 141), some (ZI x2_42), some (ZI r91)] dX3_doOn_94 rfl (by decide) rfl rfl ?_
                  show V 95 [some (ZR this), some (ZR 141), some (ZI x2_42), some (ZI r91)] [] 284 σ_42
                  refine zr_aload_n (pc := 95) hV dX3_doOn_95 rfl rfl ?_
                  refine zr_aload_n (pc := 96) hV dX3_doOn_96 rfl rfl ?_
                  refine zr_getR (pc := 97) hV 7 (this + 2) dX3_doOn_97 fX3_15 rfl rfl (zc_k4 kthis) (zc_pos kthis rfl) (zc_g4_7 hσ_42 kthis) (zc_pos (zc_p4_2 kthis) rfl).1 ?_
                  refine zr_iload_n (pc := 100) hV dX3_doOn_100 rfl rfl ?_
                  refine zr_iald (pc := 101) hV dX3_doOn_101 (zc_k6 (zc_p4_2 kthis)) (zc_pos (zc_p4_2 kthis) rfl) rfl (by omega) ?_
                  have t48 := zc_ga6 hσ_42 (zc_p4_2 kthis) x2_42
                  have t49 : σ_42 (this + 2) x2_42 = σ (this + 2) x2_42 := hFσ_42 _ _ (zc_out_ar (zc_p4_2 kthis) rfl)
                  refine zr_iload_n (pc := 102) hV dX3_doOn_102 rfl rfl ?_
                  refine zr_callUv (pc := 103) hV [ZI (σ_42 (this + 2) x2_42), ZI r91] (st := []) (c_X10_become (σ := σ_42) hσ_42 (σ_42 (this + 2) x2_42) r91 (by omega) (by omega)) dX3_doOn_103 mX3_114_10 (zc_k141 zc_s141) (zc_pos zc_s141 rfl) (by decide) (Nat.le_of_ble_eq_true rfl) (Nat.le_refl _) (fun σ103 pσ103 => ?_)
                  obtain ⟨hσ103, hfσ103, pσ103⟩ := pσ103
                  have hFσ103 := zc_Fc hfσ103 rfl hFσ_42
                  refine zr_iinc (pc := 106) hV [some (ZR this), some (ZR 141), some (ZI (x2_42 + 1)), some (ZI r91)] (x2_42 + 1) dX3_doOn_106 rfl rfl (by decide) rfl rfl ?_
                  refine zr_goto (pc := 109) hV 42 dX3_doOn_109 (by decide) ?_
                  refine zr_sub (pc := 42) hV [some (ZR this), some (ZR 141), some (ZI (x2_42 + 1)), none] (⟨rfl, rfl, rfl, trivial⟩) ?_
                  exact ih42 (x2_42 + 1) σ103 (by omega) hσ103 hFσ103 (by omega)
          exact L42 (3 - (0 : Int) + 1 : Int).toNat 0 σ (by omega) hσ hFσ (by omega)
        · exfalso; omega
      · show V 31 [some (ZR this), some (ZR 141), none, none] [ZI 0] 284 σ
        refine zr_iconst (pc := 31) hV 1 dX3_doOn_31 rfl ?_
        refine zr_goto (pc := 32) hV 36 dX3_doOn_32 (by decide) ?_
        show V 36 [some (ZR this), some (ZR 141), none, none] [ZI 1, ZI 0] 284 σ
        refine zr_icmp_eq (pc := 36) hV 40 dX3_doOn_36 (by decide) ⟨by decide, by decide⟩ ⟨by decide, by decide⟩ (fun c50 => ?_) (fun c50 => ?_)
        · exfalso; omega
        · show V 39 [some (ZR this), some (ZR 141), none, none] [] 284 σ
          exact zr_vret (pc := 39) hV dX3_doOn_39 rfl rfl ⟨rfl, hσ, hFσ, trivial⟩
    · show V 18 [some (ZR this), some (ZR 141), none, none] [] 284 σ
      refine zr_iconst (pc := 18) hV 1 dX3_doOn_18 rfl ?_
      refine zr_goto (pc := 19) hV 23 dX3_doOn_19 (by decide) ?_
      show V 23 [some (ZR this), some (ZR 141), none, none] [ZI 1] 284 σ
      refine zr_aload_n (pc := 23) hV dX3_doOn_23 rfl rfl ?_
      refine zr_getI (pc := 24) hV 4 dX3_doOn_24 fX3_43 rfl rfl (zc_k4 kthis) (zc_pos kthis rfl) ?_
      have t51 := zc_g4_4 hσ kthis
      refine zr_iconst (pc := 27) hV 1 dX3_doOn_27 rfl ?_
      refine zr_icmp_ne (pc := 28) hV 35 dX3_doOn_28 (by decide) (by omega) ⟨by decide, by decide⟩ (fun c52 => ?_) (fun c52 => ?_)
      · show V 35 [some (ZR this), some (ZR 141), none, none] [ZI 1] 284 σ
        refine zr_iconst (pc := 35) hV 0 dX3_doOn_35 rfl ?_
        show V 36 [some (ZR this), some (ZR 141), none, none] [ZI 0, ZI 1] 284 σ
        refine zr_icmp_eq (pc := 36) hV 40 dX3_doOn_36 (by decide) ⟨by decide, by decide⟩ ⟨by decide, by decide⟩ (fun c53 => ?_) (fun c53 => ?_)
        · exfalso; omega
        · show V 39 [some (ZR this), some (ZR 141), none, none] [] 284 σ
          exact zr_vret (pc := 39) hV dX3_doOn_39 rfl rfl ⟨rfl, hσ, hFσ, trivial⟩
      · show V 31 [some (ZR this), some (ZR 141), none, none] [ZI 1] 284 σ
        refine zr_iconst (pc := 31) hV 1 dX3_doOn_31 rfl ?_
        refine zr_goto (pc := 32) hV 36 dX3_doOn_32 (by decide) ?_
        show V 36 [some (ZR this), some (ZR 141), none, none] [ZI 1, ZI 1] 284 σ
        refine zr_icmp_eq (pc := 36) hV 40 dX3_doOn_36 (by decide) ⟨by decide, by decide⟩ ⟨by decide, by decide⟩ (fun c54 => ?_) (fun c54 => ?_)
        · show V 40 [some (ZR this), some (ZR 141), none, none] [] 284 σ
          refine zr_iconst (pc := 40) hV 0 dX3_doOn_40 rfl ?_
          refine zr_istore_n (pc := 41) hV [some (ZR this), some (ZR 141), some (ZI 0), none] dX3_doOn_41 rfl (by decide) rfl rfl ?_
          have L42 : ∀ (fuel : Nat) (x2_42 : Int) (σ_42 : zq_S), (0 ≤ x2_42 ∧ x2_42 ≤ 3) → (zc_T σ_42) → (zc_Fr [(141, 3), (141, 4), (141, 6), (142, -1), (143, -1), (145, -1), (146, -1)] σ σ_42) → 3 - x2_42 < (fuel : Int) → V 42 [some (ZR this), some (ZR 141), some (ZI x2_42), none] [] 284 σ_42 := by
            intro fuel
            induction fuel with
            | zero =>
              intro x2_42 σ_42 hx2_42 hσ_42 hFσ_42 hm42
              exfalso; omega
            | succ fuel ih =>
              intro x2_42 σ_42 hx2_42 hσ_42 hFσ_42 hm42
              have ih42 := ih
              show V 42 [some (ZR this), some (ZR 141), some (ZI x2_42), none] [] 284 σ_42
              refine zr_iload_n (pc := 42) hV dX3_doOn_42 rfl rfl ?_
              refine zr_aload_n (pc := 43) hV dX3_doOn_43 rfl rfl ?_
              refine zr_getI (pc := 44) hV 6 dX3_doOn_44 fX3_49 rfl rfl (zc_k4 kthis) (zc_pos kthis rfl) ?_
              have t55 := zc_g4_6 hσ_42 kthis
              have t56 : σ_42 this 6 = σ this 6 := hFσ_42 _ _ (zc_out_at kthis rfl)
              refine zr_icmp_ge (pc := 47) hV 112 dX3_doOn_47 (by decide) (by omega) (by omega) (fun c57 => ?_) (fun c57 => ?_)
              · show V 112 [some (ZR this), some (ZR 141), some (ZI x2_42), none] [] 284 σ_42
                exact zr_vret (pc := 112) hV dX3_doOn_112 rfl rfl ⟨rfl, hσ_42, hFσ_42, trivial⟩
              · show V 50 [some (ZR this), some (ZR 141), some (ZI x2_42), none] [] 284 σ_42
                refine zr_aload_n (pc := 50) hV dX3_doOn_50 rfl rfl ?_
                refine zr_aload_n (pc := 51) hV dX3_doOn_51 rfl rfl ?_
                refine zr_getR (pc := 52) hV 8 (this + 3) dX3_doOn_52 fX3_18 rfl rfl (zc_k4 kthis) (zc_pos kthis rfl) (zc_g4_8 hσ_42 kthis) (zc_pos (zc_p4_3 kthis) rfl).1 ?_
                refine zr_iload_n (pc := 55) hV dX3_doOn_55 rfl rfl ?_
                refine zr_iald (pc := 56) hV dX3_doOn_56 (zc_k7 (zc_p4_3 kthis)) (zc_pos (zc_p4_3 kthis) rfl) rfl (by omega) ?_
                have t58 := zc_ga7 hσ_42 (zc_p4_3 kthis) x2_42
                have t59 : σ_42 (this + 3) x2_42 = σ (this + 3) x2_42 := hFσ_42 _ _ (zc_out_ar (zc_p4_3 kthis) rfl)
                refine zr_callUp (pc := 57) hV [ZI (σ_42 (this + 3) x2_42)] (st := []) (c_X10_wordOf (σ := σ_42) hσ_42 (σ_42 (this + 3) x2_42) (by omega) (zc_ga7 hσ_42 (zc_p4_3 kthis) _).2.2) dX3_doOn_57 mX3_102_10 (zc_k141 zc_s141) (zc_pos zc_s141 rfl) (by decide) (Nat.le_of_ble_eq_true rfl) (Nat.le_refl _) (fun r57 hr57 pr57 => ?_)
                refine zr_istore_n (pc := 60) hV [some (ZR this), some (ZR 141), some (ZI x2_42), some (ZI r57)] dX3_doOn_60 rfl (by decide) rfl rfl ?_
                refine zr_aload_n (pc := 61) hV dX3_doOn_61 rfl rfl ?_
                refine zr_getR (pc := 62) hV 9 (this + 4) dX3_doOn_62 fX3_21 rfl rfl (zc_k4 kthis) (zc_pos kthis rfl) (zc_g4_9 hσ_42 kthis) (zc_pos (zc_p4_4 kthis) rfl).1 ?_
                refine zr_iload_n (pc := 65) hV dX3_doOn_65 rfl rfl ?_
                refine zr_iald (pc := 66) hV dX3_doOn_66 (zc_k8 (zc_p4_4 kthis)) (zc_pos (zc_p4_4 kthis) rfl) rfl (by omega) ?_
                have t60 := zc_ga8 hσ_42 (zc_p4_4 kthis) x2_42
                have t61 : σ_42 (this + 4) x2_42 = σ (this + 4) x2_42 := hFσ_42 _ _ (zc_out_ar (zc_p4_4 kthis) rfl)
                refine zr_if_eq (pc := 67) hV 95 dX3_doOn_67 (by decide) (by omega) (fun c62 => ?_) (fun c62 => ?_)
                · show V 95 [some (ZR this), some (ZR 141), some (ZI x2_42), some (ZI r57)] [] 284 σ_42
                  refine zr_aload_n (pc := 95) hV dX3_doOn_95 rfl rfl ?_
                  refine zr_aload_n (pc := 96) hV dX3_doOn_96 rfl rfl ?_
                  refine zr_getR (pc := 97) hV 7 (this + 2) dX3_doOn_97 fX3_15 rfl rfl (zc_k4 kthis) (zc_pos kthis rfl) (zc_g4_7 hσ_42 kthis) (zc_pos (zc_p4_2 kthis) rfl).1 ?_
                  refine zr_iload_n (pc := 100) hV dX3_doOn_100 rfl rfl ?_
                  refine zr_iald (pc := 101) hV dX3_doOn_101 (zc_k6 (zc_p4_2 kthis)) (zc_pos (zc_p4_2 kthis) rfl) rfl (by omega) ?_
                  have t63 := zc_ga6 hσ_42 (zc_p4_2 kthis) x2_42
                  have t64 : σ_42 (this + 2) x2_42 = σ (this + 2) x2_42 := hFσ_42 _ _ (zc_out_ar (zc_p4_2 kthis) rfl)
                  refine zr_iload_n (pc := 102) hV dX3_doOn_102 rfl rfl ?_
                  refine zr_callUv (pc := 103) hV [ZI (σ_42 (this + 2) x2_42), ZI r57] (st := []) (c_X10_become (σ := σ_42) hσ_42 (σ_42 (this + 2) x2_42) r57 (by omega) (by omega)) dX3_doOn_103 mX3_114_10 (zc_k141 zc_s141) (zc_pos zc_s141 rfl) (by decide) (Nat.le_of_ble_eq_true rfl) (Nat.le_refl _) (fun σ103 pσ103 => ?_)
                  obtain ⟨hσ103, hfσ103, pσ103⟩ := pσ103
                  have hFσ103 := zc_Fc hfσ103 rfl hFσ_42
                  refine zr_iinc (pc := 106) hV [some (ZR this), some (ZR 141), some (ZI (x2_42 + 1)), some (ZI r57)] (x2_42 + 1) dX3_doOn_106 rfl rfl (by decide) rfl rfl ?_
                  refine zr_goto (pc := 109) hV 42 dX3_doOn_109 (by decide) ?_
                  refine zr_sub (pc := 42) hV [some (ZR this), some (ZR 141), some (ZI (x2_42 + 1)), none] (⟨rfl, rfl, rfl, trivial⟩) ?_
                  exact ih42 (x2_42 + 1) σ103 (by omega) hσ103 hFσ103 (by omega)
                · show V 70 [some (ZR this), some (ZR 141), some (ZI x2_42), some (ZI r57)] [] 284 σ_42
                  refine zr_aload_n (pc := 70) hV dX3_doOn_70 rfl rfl ?_
                  refine zr_getR (pc := 71) hV 9 (this + 4) dX3_doOn_71 fX3_21 rfl rfl (zc_k4 kthis) (zc_pos kthis rfl) (zc_g4_9 hσ_42 kthis) (zc_pos (zc_p4_4 kthis) rfl).1 ?_
                  refine zr_iload_n (pc := 74) hV dX3_doOn_74 rfl rfl ?_
                  refine zr_iald (pc := 75) hV dX3_doOn_75 (zc_k8 (zc_p4_4 kthis)) (zc_pos (zc_p4_4 kthis) rfl) rfl (by omega) ?_
                  have t65 := zc_ga8 hσ_42 (zc_p4_4 kthis) x2_42
                  have t66 : σ_42 (this + 4) x2_42 = σ (this + 4) x2_42 := hFσ_42 _ _ (zc_out_ar (zc_p4_4 kthis) rfl)
                  refine zr_iload_n (pc := 76) hV dX3_doOn_76 rfl rfl ?_
                  refine zr_aload_n (pc := 77) hV dX3_doOn_77 rfl rfl ?_
                  refine zr_aload_n (pc := 78) hV dX3_doOn_78 rfl rfl ?_
                  refine zr_getR (pc := 79) hV 10 (this + 5) dX3_doOn_79 fX3_24 rfl rfl (zc_k4 kthis) (zc_pos kthis rfl) (zc_g4_10 hσ_42 kthis) (zc_pos (zc_p4_5 kthis) rfl).1 ?_
                  refine zr_iload_n (pc := 82) hV dX3_doOn_82 rfl rfl ?_
                  refine zr_iald (pc := 83) hV dX3_doOn_83 (zc_k9 (zc_p4_5 kthis)) (zc_pos (zc_p4_5 kthis) rfl) rfl (by omega) ?_
                  have t67 := zc_ga9 hσ_42 (zc_p4_5 kthis) x2_42
                  have t68 : σ_42 (this + 5) x2_42 = σ (this + 5) x2_42 := hFσ_42 _ _ (zc_out_ar (zc_p4_5 kthis) rfl)
                  refine zr_callUp (pc := 84) hV [ZI (σ_42 (this + 5) x2_42)] (st := [ZI r57, ZI (σ_42 (this + 4) x2_42)]) (c_X10_wordOf (σ := σ_42) hσ_42 (σ_42 (this + 5) x2_42) (by omega) (zc_ga9 hσ_42 (zc_p4_5 kthis) _).2.2) dX3_doOn_84 mX3_102_10 (zc_k141 zc_s141) (zc_pos zc_s141 rfl) (by decide) (Nat.le_of_ble_eq_true rfl) (Nat.le_refl _) (fun r84 hr84 pr84 => ?_)
                  refine zr_aload_n (pc := 87) hV dX3_doOn_87 rfl rfl ?_
                  refine zr_getI (pc := 88) hV 0 dX3_doOn_88 fX3_107_10 rfl rfl (zc_k141 zc_s141) (zc_pos zc_s141 rfl) ?_
                  have t69 := zc_g141_0 hσ_42 zc_s141
                  have t70 : σ_42 141 0 = σ 141 0 := hFσ_42 _ _ (zc_out_at zc_s141 rfl)
                  have t71 := zc_g141_0 hσ_42 zc_s141
                  have t72 : σ_42 141 0 = σ 141 0 := hFσ_42 _ _ (zc_out_at zc_s141 rfl)
                  refine zr_callSp (pc := 91) hV [ZI (σ_42 (this + 4) x2_42), ZI r57, ZI r84, ZI (σ_42 141 0)] (st := []) (c_X3_combine (σ := σ_42) (σ_42 (this + 4) x2_42) r57 r84 (σ_42 141 0) (by omega) (by omega) (by omega) (by omega)) dX3_doOn_91 mX3_110 (by decide) (Nat.le_of_ble_eq_true rfl) (Nat.le_refl _) (fun r91 hr91 pr91 => ?_)
                  refine zr_istore_n (pc := 94) hV [some (ZR this), some (ZR 141), some (ZI x2_42), some (ZI r91)] dX3_doOn_94 rfl (by decide) rfl rfl ?_
                  show V 95 [some (ZR this), some (ZR 141), some (ZI x2_42), some (ZI r91)] [] 284 σ_42
                  refine zr_aload_n (pc := 95) hV dX3_doOn_95 rfl rfl ?_
                  refine zr_aload_n (pc := 96) hV dX3_doOn_96 rfl rfl ?_
                  refine zr_getR (pc := 97) hV 7 (this + 2) dX3_doOn_97 fX3_15 rfl rfl (zc_k4 kthis) (zc_pos kthis rfl) (zc_g4_7 hσ_42 kthis) (zc_pos (zc_p4_2 kthis) rfl).1 ?_
                  refine zr_iload_n (pc := 100) hV dX3_doOn_100 rfl rfl ?_
                  refine zr_iald (pc := 101) hV dX3_doOn_101 (zc_k6 (zc_p4_2 kthis)) (zc_pos (zc_p4_2 kthis) rfl) rfl (by omega) ?_
                  have t73 := zc_ga6 hσ_42 (zc_p4_2 kthis) x2_42
                  have t74 : σ_42 (this + 2) x2_42 = σ (this + 2) x2_42 := hFσ_42 _ _ (zc_out_ar (zc_p4_2 kthis) rfl)
                  refine zr_iload_n (pc := 102) hV dX3_doOn_102 rfl rfl ?_
                  refine zr_callUv (pc := 103) hV [ZI (σ_42 (this + 2) x2_42), ZI r91] (st := []) (c_X10_become (σ := σ_42) hσ_42 (σ_42 (this + 2) x2_42) r91 (by omega) (by omega)) dX3_doOn_103 mX3_114_10 (zc_k141 zc_s141) (zc_pos zc_s141 rfl) (by decide) (Nat.le_of_ble_eq_true rfl) (Nat.le_refl _) (fun σ103 pσ103 => ?_)
                  obtain ⟨hσ103, hfσ103, pσ103⟩ := pσ103
                  have hFσ103 := zc_Fc hfσ103 rfl hFσ_42
                  refine zr_iinc (pc := 106) hV [some (ZR this), some (ZR 141), some (ZI (x2_42 + 1)), some (ZI r91)] (x2_42 + 1) dX3_doOn_106 rfl rfl (by decide) rfl rfl ?_
                  refine zr_goto (pc := 109) hV 42 dX3_doOn_109 (by decide) ?_
                  refine zr_sub (pc := 42) hV [some (ZR this), some (ZR 141), some (ZI (x2_42 + 1)), none] (⟨rfl, rfl, rfl, trivial⟩) ?_
                  exact ih42 (x2_42 + 1) σ103 (by omega) hσ103 hFσ103 (by omega)
          exact L42 (3 - (0 : Int) + 1 : Int).toNat 0 σ (by omega) hσ hFσ (by omega)
        · exfalso; omega
set_option maxHeartbeats 800000 in
theorem c_X3_doOn_T {σ : zq_S} (hσ : zc_T σ) (this : Int) (kthis : zc_kd this = 4)  : zq_C zc_w yX3_doOn cX3_doOn 4 (none) 3 65 284 284 [ZR this, ZR 147] σ (zq_pv (fun τ => zc_T τ ∧ zc_Fr [(147, 3), (147, 4), (147, 6), (148, -1), (149, -1), (151, -1), (152, -1)] σ τ ∧ (True))) := by
  refine zq_C_of (by decide) (Nat.le_refl _) (Nat.le_of_ble_eq_true rfl) [some (ZR this), some (ZR 147), none, none] rfl (fun V hV => ?_)
  have pothis := zc_pos kthis rfl
  have hFσ := zc_Fr_rf [(147, 3), (147, 4), (147, 6), (148, -1), (149, -1), (151, -1), (152, -1)] σ
  show V 0 [some (ZR this), some (ZR 147), none, none] [] 284 σ
  refine zr_aload_n (pc := 0) hV dX3_doOn_0 rfl rfl ?_
  refine zr_getI (pc := 1) hV 4 dX3_doOn_1 fX3_43 rfl rfl (zc_k4 kthis) (zc_pos kthis rfl) ?_
  have t1 := zc_g4_4 hσ kthis
  refine zr_if_eq (pc := 4) hV 40 dX3_doOn_4 (by decide) (by omega) (fun c2 => ?_) (fun c2 => ?_)
  · show V 40 [some (ZR this), some (ZR 147), none, none] [] 284 σ
    refine zr_iconst (pc := 40) hV 0 dX3_doOn_40 rfl ?_
    refine zr_istore_n (pc := 41) hV [some (ZR this), some (ZR 147), some (ZI 0), none] dX3_doOn_41 rfl (by decide) rfl rfl ?_
    have L42 : ∀ (fuel : Nat) (x2_42 : Int) (σ_42 : zq_S), (0 ≤ x2_42 ∧ x2_42 ≤ 3) → (zc_T σ_42) → (zc_Fr [(147, 3), (147, 4), (147, 6), (148, -1), (149, -1), (151, -1), (152, -1)] σ σ_42) → 3 - x2_42 < (fuel : Int) → V 42 [some (ZR this), some (ZR 147), some (ZI x2_42), none] [] 284 σ_42 := by
      intro fuel
      induction fuel with
      | zero =>
        intro x2_42 σ_42 hx2_42 hσ_42 hFσ_42 hm42
        exfalso; omega
      | succ fuel ih =>
        intro x2_42 σ_42 hx2_42 hσ_42 hFσ_42 hm42
        have ih42 := ih
        show V 42 [some (ZR this), some (ZR 147), some (ZI x2_42), none] [] 284 σ_42
        refine zr_iload_n (pc := 42) hV dX3_doOn_42 rfl rfl ?_
        refine zr_aload_n (pc := 43) hV dX3_doOn_43 rfl rfl ?_
        refine zr_getI (pc := 44) hV 6 dX3_doOn_44 fX3_49 rfl rfl (zc_k4 kthis) (zc_pos kthis rfl) ?_
        have t3 := zc_g4_6 hσ_42 kthis
        have t4 : σ_42 this 6 = σ this 6 := hFσ_42 _ _ (zc_out_at kthis rfl)
        refine zr_icmp_ge (pc := 47) hV 112 dX3_doOn_47 (by decide) (by omega) (by omega) (fun c5 => ?_) (fun c5 => ?_)
        · show V 112 [some (ZR this), some (ZR 147), some (ZI x2_42), none] [] 284 σ_42
          exact zr_vret (pc := 112) hV dX3_doOn_112 rfl rfl ⟨rfl, hσ_42, hFσ_42, trivial⟩
        · show V 50 [some (ZR this), some (ZR 147), some (ZI x2_42), none] [] 284 σ_42
          refine zr_aload_n (pc := 50) hV dX3_doOn_50 rfl rfl ?_
          refine zr_aload_n (pc := 51) hV dX3_doOn_51 rfl rfl ?_
          refine zr_getR (pc := 52) hV 8 (this + 3) dX3_doOn_52 fX3_18 rfl rfl (zc_k4 kthis) (zc_pos kthis rfl) (zc_g4_8 hσ_42 kthis) (zc_pos (zc_p4_3 kthis) rfl).1 ?_
          refine zr_iload_n (pc := 55) hV dX3_doOn_55 rfl rfl ?_
          refine zr_iald (pc := 56) hV dX3_doOn_56 (zc_k7 (zc_p4_3 kthis)) (zc_pos (zc_p4_3 kthis) rfl) rfl (by omega) ?_
          have t6 := zc_ga7 hσ_42 (zc_p4_3 kthis) x2_42
          have t7 : σ_42 (this + 3) x2_42 = σ (this + 3) x2_42 := hFσ_42 _ _ (zc_out_ar (zc_p4_3 kthis) rfl)
          refine zr_callUp (pc := 57) hV [ZI (σ_42 (this + 3) x2_42)] (st := []) (c_X10_wordOf_t (σ := σ_42) hσ_42 (σ_42 (this + 3) x2_42) (by omega) (zc_ga7 hσ_42 (zc_p4_3 kthis) _).2.2) dX3_doOn_57 mX3_102_10 (zc_k147 zc_s147) (zc_pos zc_s147 rfl) (by decide) (Nat.le_of_ble_eq_true rfl) (Nat.le_refl _) (fun r57 hr57 pr57 => ?_)
          refine zr_istore_n (pc := 60) hV [some (ZR this), some (ZR 147), some (ZI x2_42), some (ZI r57)] dX3_doOn_60 rfl (by decide) rfl rfl ?_
          refine zr_aload_n (pc := 61) hV dX3_doOn_61 rfl rfl ?_
          refine zr_getR (pc := 62) hV 9 (this + 4) dX3_doOn_62 fX3_21 rfl rfl (zc_k4 kthis) (zc_pos kthis rfl) (zc_g4_9 hσ_42 kthis) (zc_pos (zc_p4_4 kthis) rfl).1 ?_
          refine zr_iload_n (pc := 65) hV dX3_doOn_65 rfl rfl ?_
          refine zr_iald (pc := 66) hV dX3_doOn_66 (zc_k8 (zc_p4_4 kthis)) (zc_pos (zc_p4_4 kthis) rfl) rfl (by omega) ?_
          have t8 := zc_ga8 hσ_42 (zc_p4_4 kthis) x2_42
          have t9 : σ_42 (this + 4) x2_42 = σ (this + 4) x2_42 := hFσ_42 _ _ (zc_out_ar (zc_p4_4 kthis) rfl)
          refine zr_if_eq (pc := 67) hV 95 dX3_doOn_67 (by decide) (by omega) (fun c10 => ?_) (fun c10 => ?_)
          · show V 95 [some (ZR this), some (ZR 147), some (ZI x2_42), some (ZI r57)] [] 284 σ_42
            refine zr_aload_n (pc := 95) hV dX3_doOn_95 rfl rfl ?_
            refine zr_aload_n (pc := 96) hV dX3_doOn_96 rfl rfl ?_
            refine zr_getR (pc := 97) hV 7 (this + 2) dX3_doOn_97 fX3_15 rfl rfl (zc_k4 kthis) (zc_pos kthis rfl) (zc_g4_7 hσ_42 kthis) (zc_pos (zc_p4_2 kthis) rfl).1 ?_
            refine zr_iload_n (pc := 100) hV dX3_doOn_100 rfl rfl ?_
            refine zr_iald (pc := 101) hV dX3_doOn_101 (zc_k6 (zc_p4_2 kthis)) (zc_pos (zc_p4_2 kthis) rfl) rfl (by omega) ?_
            have t11 := zc_ga6 hσ_42 (zc_p4_2 kthis) x2_42
            have t12 : σ_42 (this + 2) x2_42 = σ (this + 2) x2_42 := hFσ_42 _ _ (zc_out_ar (zc_p4_2 kthis) rfl)
            refine zr_iload_n (pc := 102) hV dX3_doOn_102 rfl rfl ?_
            refine zr_callUv (pc := 103) hV [ZI (σ_42 (this + 2) x2_42), ZI r57] (st := []) (c_X10_become_t (σ := σ_42) hσ_42 (σ_42 (this + 2) x2_42) r57 (by omega) (by omega)) dX3_doOn_103 mX3_114_10 (zc_k147 zc_s147) (zc_pos zc_s147 rfl) (by decide) (Nat.le_of_ble_eq_true rfl) (Nat.le_refl _) (fun σ103 pσ103 => ?_)
            obtain ⟨hσ103, hfσ103, pσ103⟩ := pσ103
            have hFσ103 := zc_Fc hfσ103 rfl hFσ_42
            refine zr_iinc (pc := 106) hV [some (ZR this), some (ZR 147), some (ZI (x2_42 + 1)), some (ZI r57)] (x2_42 + 1) dX3_doOn_106 rfl rfl (by decide) rfl rfl ?_
            refine zr_goto (pc := 109) hV 42 dX3_doOn_109 (by decide) ?_
            refine zr_sub (pc := 42) hV [some (ZR this), some (ZR 147), some (ZI (x2_42 + 1)), none] (⟨rfl, rfl, rfl, trivial⟩) ?_
            exact ih42 (x2_42 + 1) σ103 (by omega) hσ103 hFσ103 (by omega)
          · show V 70 [some (ZR this), some (ZR 147), some (ZI x2_42), some (ZI r57)] [] 284 σ_42
            refine zr_aload_n (pc := 70) hV dX3_doOn_70 rfl rfl ?_
            refine zr_getR (pc := 71) hV 9 (this + 4) dX3_doOn_71 fX3_21 rfl rfl (zc_k4 kthis) (zc_pos kthis rfl) (zc_g4_9 hσ_42 kthis) (zc_pos (zc_p4_4 kthis) rfl).1 ?_
            refine zr_iload_n (pc := 74) hV dX3_doOn_74 rfl rfl ?_
            refine zr_iald (pc := 75) hV dX3_doOn_75 (zc_k8 (zc_p4_4 kthis)) (zc_pos (zc_p4_4 kthis) rfl) rfl (by omega) ?_
            have t13 := zc_ga8 hσ_42 (zc_p4_4 kthis) x2_42
            have t14 : σ_42 (this + 4) x2_42 = σ (this + 4) x2_42 := hFσ_42 _ _ (zc_out_ar (zc_p4_4 kthis) rfl)
            refine zr_iload_n (pc := 76) hV dX3_doOn_76 rfl rfl ?_
            refine zr_aload_n (pc := 77) hV dX3_doOn_77 rfl rfl ?_
            refine zr_aload_n (pc := 78) hV dX3_doOn_78 rfl rfl ?_
            refine zr_getR (pc := 79) hV 10 (this + 5) dX3_doOn_79 fX3_24 rfl rfl (zc_k4 kthis) (zc_pos kthis rfl) (zc_g4_10 hσ_42 kthis) (zc_pos (zc_p4_5 kthis) rfl).1 ?_
            refine zr_iload_n (pc := 82) hV dX3_doOn_82 rfl rfl ?_
            refine zr_iald (pc := 83) hV dX3_doOn_83 (zc_k9 (zc_p4_5 kthis)) (zc_pos (zc_p4_5 kthis) rfl) rfl (by omega) ?_
            have t15 := zc_ga9 hσ_42 (zc_p4_5 kthis) x2_42
            have t16 : σ_42 (this + 5) x2_42 = σ (this + 5) x2_42 := hFσ_42 _ _ (zc_out_ar (zc_p4_5 kthis) rfl)
            refine zr_callUp (pc := 84) hV [ZI (σ_42 (this + 5) x2_42)] (st := [ZI r57, ZI (σ_42 (this + 4) x2_42)]) (c_X10_wordOf_t (σ := σ_42) hσ_42 (σ_42 (this + 5) x2_42) (by omega) (zc_ga9 hσ_42 (zc_p4_5 kthis) _).2.2) dX3_doOn_84 mX3_102_10 (zc_k147 zc_s147) (zc_pos zc_s147 rfl) (by decide) (Nat.le_of_ble_eq_true rfl) (Nat.le_refl _) (fun r84 hr84 pr84 => ?_)
            refine zr_aload_n (pc := 87) hV dX3_doOn_87 rfl rfl ?_
            refine zr_getI (pc := 88) hV 0 dX3_doOn_88 fX3_107_10 rfl rfl (zc_k147 zc_s147) (zc_pos zc_s147 rfl) ?_
            have t17 := zc_g147_0 hσ_42 zc_s147
            have t18 : σ_42 147 0 = σ 147 0 := hFσ_42 _ _ (zc_out_at zc_s147 rfl)
            have t19 := zc_g147_0 hσ_42 zc_s147
            have t20 : σ_42 147 0 = σ 147 0 := hFσ_42 _ _ (zc_out_at zc_s147 rfl)
            refine zr_callSp (pc := 91) hV [ZI (σ_42 (this + 4) x2_42), ZI r57, ZI r84, ZI (σ_42 147 0)] (st := []) (c_X3_combine (σ := σ_42) (σ_42 (this + 4) x2_42) r57 r84 (σ_42 147 0) (by omega) (by omega) (by omega) (by omega)) dX3_doOn_91 mX3_110 (by decide) (Nat.le_of_ble_eq_true rfl) (Nat.le_refl _) (fun r91 hr91 pr91 => ?_)
            refine zr_istore_n (pc := 94) hV [some (ZR this), some (ZR 147), some (ZI x2_42), some (ZI r91)] dX3_doOn_94 rfl (by decide) rfl rfl ?_
            show V 95 [some (ZR this), some (ZR 147), some (ZI x2_42), some (ZI r91)] [] 284 σ_42
            refine zr_aload_n (pc := 95) hV dX3_doOn_95 rfl rfl ?_
            refine zr_aload_n (pc := 96) hV dX3_doOn_96 rfl rfl ?_
            refine zr_getR (pc := 97) hV 7 (this + 2) dX3_doOn_97 fX3_15 rfl rfl (zc_k4 kthis) (zc_pos kthis rfl) (zc_g4_7 hσ_42 kthis) (zc_pos (zc_p4_2 kthis) rfl).1 ?_
            refine zr_iload_n (pc := 100) hV dX3_doOn_100 rfl rfl ?_
            refine zr_iald (pc := 101) hV dX3_doOn_101 (zc_k6 (zc_p4_2 kthis)) (zc_pos (zc_p4_2 kthis) rfl) rfl (by omega) ?_
            have t21 := zc_ga6 hσ_42 (zc_p4_2 kthis) x2_42
            have t22 : σ_42 (this + 2) x2_42 = σ (this + 2) x2_42 := hFσ_42 _ _ (zc_out_ar (zc_p4_2 kthis) rfl)
            refine zr_iload_n (pc := 102) hV dX3_doOn_102 rfl rfl ?_
            refine zr_callUv (pc := 103) hV [ZI (σ_42 (this + 2) x2_42), ZI r91] (st := []) (c_X10_become_t (σ := σ_42) hσ_42 (σ_42 (this + 2) x2_42) r91 (by omega) (by omega)) dX3_doOn_103 mX3_114_10 (zc_k147 zc_s147) (zc_pos zc_s147 rfl) (by decide) (Nat.le_of_ble_eq_true rfl) (Nat.le_refl _) (fun σ103 pσ103 => ?_)
            obtain ⟨hσ103, hfσ103, pσ103⟩ := pσ103
            have hFσ103 := zc_Fc hfσ103 rfl hFσ_42
            refine zr_iinc (pc := 106) hV [some (ZR this), some (ZR 147), some (ZI (x2_42 + 1)), some (ZI r91)] (x2_42 + 1) dX3_doOn_106 rfl rfl (by decide) rfl rfl ?_
            refine zr_goto (pc := 109) hV 42 dX3_doOn_109 (by decide) ?_
            refine zr_sub (pc := 42) hV [some (ZR this), some (ZR 147), some (ZI (x2_42 + 1)), none] (⟨rfl, rfl, rfl, trivial⟩) ?_
            exact ih42 (x2_42 + 1) σ103 (by omega) hσ103 hFσ103 (by omega)
    exact L42 (3 - (0 : Int) + 1 : Int).toNat 0 σ (by omega) hσ hFσ (by omega)
  · show V 7 [some (ZR this), some (ZR 147), none, none] [] 284 σ
    refine zr_aload_n (pc := 7) hV dX3_doOn_7 rfl rfl ?_
    refine zr_aload_n (pc := 8) hV dX3_doOn_8 rfl rfl ?_
    refine zr_getI (pc := 9) hV 5 dX3_doOn_9 fX3_46 rfl rfl (zc_k4 kthis) (zc_pos kthis rfl) ?_
    have t23 := zc_g4_5 hσ kthis
    have t24 := zc_g4_5 hσ kthis
    have t25 := zc_g4_5 hσ kthis
    refine zr_callUp (pc := 12) hV [ZI (σ this 5)] (st := []) (c_X10_wordOf_t (σ := σ) hσ (σ this 5) (by omega) (Or.inl (by omega))) dX3_doOn_12 mX3_102_10 (zc_k147 zc_s147) (zc_pos zc_s147 rfl) (by decide) (Nat.le_of_ble_eq_true rfl) (Nat.le_refl _) (fun r12 hr12 pr12 => ?_)
    refine zr_if_eq (pc := 15) hV 22 dX3_doOn_15 (by decide) (by omega) (fun c26 => ?_) (fun c26 => ?_)
    · show V 22 [some (ZR this), some (ZR 147), none, none] [] 284 σ
      refine zr_iconst (pc := 22) hV 0 dX3_doOn_22 rfl ?_
      show V 23 [some (ZR this), some (ZR 147), none, none] [ZI 0] 284 σ
      refine zr_aload_n (pc := 23) hV dX3_doOn_23 rfl rfl ?_
      refine zr_getI (pc := 24) hV 4 dX3_doOn_24 fX3_43 rfl rfl (zc_k4 kthis) (zc_pos kthis rfl) ?_
      have t27 := zc_g4_4 hσ kthis
      refine zr_iconst (pc := 27) hV 1 dX3_doOn_27 rfl ?_
      refine zr_icmp_ne (pc := 28) hV 35 dX3_doOn_28 (by decide) (by omega) ⟨by decide, by decide⟩ (fun c28 => ?_) (fun c28 => ?_)
      · show V 35 [some (ZR this), some (ZR 147), none, none] [ZI 0] 284 σ
        refine zr_iconst (pc := 35) hV 0 dX3_doOn_35 rfl ?_
        show V 36 [some (ZR this), some (ZR 147), none, none] [ZI 0, ZI 0] 284 σ
        refine zr_icmp_eq (pc := 36) hV 40 dX3_doOn_36 (by decide) ⟨by decide, by decide⟩ ⟨by decide, by decide⟩ (fun c29 => ?_) (fun c29 => ?_)
        · show V 40 [some (ZR this), some (ZR 147), none, none] [] 284 σ
          refine zr_iconst (pc := 40) hV 0 dX3_doOn_40 rfl ?_
          refine zr_istore_n (pc := 41) hV [some (ZR this), some (ZR 147), some (ZI 0), none] dX3_doOn_41 rfl (by decide) rfl rfl ?_
          have L42 : ∀ (fuel : Nat) (x2_42 : Int) (σ_42 : zq_S), (0 ≤ x2_42 ∧ x2_42 ≤ 3) → (zc_T σ_42) → (zc_Fr [(147, 3), (147, 4), (147, 6), (148, -1), (149, -1), (151, -1), (152, -1)] σ σ_42) → 3 - x2_42 < (fuel : Int) → V 42 [some (ZR this), some (ZR 147), some (ZI x2_42), none] [] 284 σ_42 := by
            intro fuel
            induction fuel with
            | zero =>
              intro x2_42 σ_42 hx2_42 hσ_42 hFσ_42 hm42
              exfalso; omega
            | succ fuel ih =>
              intro x2_42 σ_42 hx2_42 hσ_42 hFσ_42 hm42
              have ih42 := ih
              show V 42 [some (ZR this), some (ZR 147), some (ZI x2_42), none] [] 284 σ_42
              refine zr_iload_n (pc := 42) hV dX3_doOn_42 rfl rfl ?_
              refine zr_aload_n (pc := 43) hV dX3_doOn_43 rfl rfl ?_
              refine zr_getI (pc := 44) hV 6 dX3_doOn_44 fX3_49 rfl rfl (zc_k4 kthis) (zc_pos kthis rfl) ?_
              have t30 := zc_g4_6 hσ_42 kthis
              have t31 : σ_42 this 6 = σ this 6 := hFσ_42 _ _ (zc_out_at kthis rfl)
              refine zr_icmp_ge (pc := 47) hV 112 dX3_doOn_47 (by decide) (by omega) (by omega) (fun c32 => ?_) (fun c32 => ?_)
              · show V 112 [some (ZR this), some (ZR 147), some (ZI x2_42), none] [] 284 σ_42
                exact zr_vret (pc := 112) hV dX3_doOn_112 rfl rfl ⟨rfl, hσ_42, hFσ_42, trivial⟩
              · show V 50 [some (ZR this), some (ZR 147), some (ZI x2_42), none] [] 284 σ_42
                refine zr_aload_n (pc := 50) hV dX3_doOn_50 rfl rfl ?_
                refine zr_aload_n (pc := 51) hV dX3_doOn_51 rfl rfl ?_
                refine zr_getR (pc := 52) hV 8 (this + 3) dX3_doOn_52 fX3_18 rfl rfl (zc_k4 kthis) (zc_pos kthis rfl) (zc_g4_8 hσ_42 kthis) (zc_pos (zc_p4_3 kthis) rfl).1 ?_
                refine zr_iload_n (pc := 55) hV dX3_doOn_55 rfl rfl ?_
                refine zr_iald (pc := 56) hV dX3_doOn_56 (zc_k7 (zc_p4_3 kthis)) (zc_pos (zc_p4_3 kthis) rfl) rfl (by omega) ?_
                have t33 := zc_ga7 hσ_42 (zc_p4_3 kthis) x2_42
                have t34 : σ_42 (this + 3) x2_42 = σ (this + 3) x2_42 := hFσ_42 _ _ (zc_out_ar (zc_p4_3 kthis) rfl)
                refine zr_callUp (pc := 57) hV [ZI (σ_42 (this + 3) x2_42)] (st := []) (c_X10_wordOf_t (σ := σ_42) hσ_42 (σ_42 (this + 3) x2_42) (by omega) (zc_ga7 hσ_42 (zc_p4_3 kthis) _).2.2) dX3_doOn_57 mX3_102_10 (zc_k147 zc_s147) (zc_pos zc_s147 rfl) (by decide) (Nat.le_of_ble_eq_true rfl) (Nat.le_refl _) (fun r57 hr57 pr57 => ?_)
                refine zr_istore_n (pc := 60) hV [some (ZR this), some (ZR 147), some (ZI x2_42), some (ZI r57)] dX3_doOn_60 rfl (by decide) rfl rfl ?_
                refine zr_aload_n (pc := 61) hV dX3_doOn_61 rfl rfl ?_
                refine zr_getR (pc := 62) hV 9 (this + 4) dX3_doOn_62 fX3_21 rfl rfl (zc_k4 kthis) (zc_pos kthis rfl) (zc_g4_9 hσ_42 kthis) (zc_pos (zc_p4_4 kthis) rfl).1 ?_
                refine zr_iload_n (pc := 65) hV dX3_doOn_65 rfl rfl ?_
                refine zr_iald (pc := 66) hV dX3_doOn_66 (zc_k8 (zc_p4_4 kthis)) (zc_pos (zc_p4_4 kthis) rfl) rfl (by omega) ?_
                have t35 := zc_ga8 hσ_42 (zc_p4_4 kthis) x2_42
                have t36 : σ_42 (this + 4) x2_42 = σ (this + 4) x2_42 := hFσ_42 _ _ (zc_out_ar (zc_p4_4 kthis) rfl)
                refine zr_if_eq (pc := 67) hV 95 dX3_doOn_67 (by decide) (by omega) (fun c37 => ?_) (fun c37 => ?_)
                · show V 95 [some (ZR this), some (ZR 147), some (ZI x2_42), some (ZI r57)] [] 284 σ_42
                  refine zr_aload_n (pc := 95) hV dX3_doOn_95 rfl rfl ?_
                  refine zr_aload_n (pc := 96) hV dX3_doOn_96 rfl rfl ?_
                  refine zr_getR (pc := 97) hV 7 (this + 2) dX3_doOn_97 fX3_15 rfl rfl (zc_k4 kthis) (zc_pos kthis rfl) (zc_g4_7 hσ_42 kthis) (zc_pos (zc_p4_2 kthis) rfl).1 ?_
                  refine zr_iload_n (pc := 100) hV dX3_doOn_100 rfl rfl ?_
                  refine zr_iald (pc := 101) hV dX3_doOn_101 (zc_k6 (zc_p4_2 kthis)) (zc_pos (zc_p4_2 kthis) rfl) rfl (by omega) ?_
                  have t38 := zc_ga6 hσ_42 (zc_p4_2 kthis) x2_42
                  have t39 : σ_42 (this + 2) x2_42 = σ (this + 2) x2_42 := hFσ_42 _ _ (zc_out_ar (zc_p4_2 kthis) rfl)
                  refine zr_iload_n (pc := 102) hV dX3_doOn_102 rfl rfl ?_
                  refine zr_callUv (pc := 103) hV [ZI (σ_42 (this + 2) x2_42), ZI r57] (st := []) (c_X10_become_t (σ := σ_42) hσ_42 (σ_42 (this + 2) x2_42) r57 (by omega) (by omega)) dX3_doOn_103 mX3_114_10 (zc_k147 zc_s147) (zc_pos zc_s147 rfl) (by decide) (Nat.le_of_ble_eq_true rfl) (Nat.le_refl _) (fun σ103 pσ103 => ?_)
                  obtain ⟨hσ103, hfσ103, pσ103⟩ := pσ103
                  have hFσ103 := zc_Fc hfσ103 rfl hFσ_42
                  refine zr_iinc (pc := 106) hV [some (ZR this), some (ZR 147), some (ZI (x2_42 + 1)), some (ZI r57)] (x2_42 + 1) dX3_doOn_106 rfl rfl (by decide) rfl rfl ?_
                  refine zr_goto (pc := 109) hV 42 dX3_doOn_109 (by decide) ?_
                  refine zr_sub (pc := 42) hV [some (ZR this), some (ZR 147), some (ZI (x2_42 + 1)), none] (⟨rfl, rfl, rfl, trivial⟩) ?_
                  exact ih42 (x2_42 + 1) σ103 (by omega) hσ103 hFσ103 (by omega)
                · show V 70 [some (ZR this), some (ZR 147), some (ZI x2_42), some (ZI r57)] [] 284 σ_42
                  refine zr_aload_n (pc := 70) hV dX3_doOn_70 rfl rfl ?_
                  refine zr_getR (pc := 71) hV 9 (this + 4) dX3_doOn_71 fX3_21 rfl rfl (zc_k4 kthis) (zc_pos kthis rfl) (zc_g4_9 hσ_42 kthis) (zc_pos (zc_p4_4 kthis) rfl).1 ?_
                  refine zr_iload_n (pc := 74) hV dX3_doOn_74 rfl rfl ?_
                  refine zr_iald (pc := 75) hV dX3_doOn_75 (zc_k8 (zc_p4_4 kthis)) (zc_pos (zc_p4_4 kthis) rfl) rfl (by omega) ?_
                  have t40 := zc_ga8 hσ_42 (zc_p4_4 kthis) x2_42
                  have t41 : σ_42 (this + 4) x2_42 = σ (this + 4) x2_42 := hFσ_42 _ _ (zc_out_ar (zc_p4_4 kthis) rfl)
                  refine zr_iload_n (pc := 76) hV dX3_doOn_76 rfl rfl ?_
                  refine zr_aload_n (pc := 77) hV dX3_doOn_77 rfl rfl ?_
                  refine zr_aload_n (pc := 78) hV dX3_doOn_78 rfl rfl ?_
                  refine zr_getR (pc := 79) hV 10 (this + 5) dX3_doOn_79 fX3_24 rfl rfl (zc_k4 kthis) (zc_pos kthis rfl) (zc_g4_10 hσ_42 kthis) (zc_pos (zc_p4_5 kthis) rfl).1 ?_
                  refine zr_iload_n (pc := 82) hV dX3_doOn_82 rfl rfl ?_
                  refine zr_iald (pc := 83) hV dX3_doOn_83 (zc_k9 (zc_p4_5 kthis)) (zc_pos (zc_p4_5 kthis) rfl) rfl (by omega) ?_
                  have t42 := zc_ga9 hσ_42 (zc_p4_5 kthis) x2_42
                  have t43 : σ_42 (this + 5) x2_42 = σ (this + 5) x2_42 := hFσ_42 _ _ (zc_out_ar (zc_p4_5 kthis) rfl)
                  refine zr_callUp (pc := 84) hV [ZI (σ_42 (this + 5) x2_42)] (st := [ZI r57, ZI (σ_42 (this + 4) x2_42)]) (c_X10_wordOf_t (σ := σ_42) hσ_42 (σ_42 (this + 5) x2_42) (by omega) (zc_ga9 hσ_42 (zc_p4_5 kthis) _).2.2) dX3_doOn_84 mX3_102_10 (zc_k147 zc_s147) (zc_pos zc_s147 rfl) (by decide) (Nat.le_of_ble_eq_true rfl) (Nat.le_refl _) (fun r84 hr84 pr84 => ?_)
                  refine zr_aload_n (pc := 87) hV dX3_doOn_87 rfl rfl ?_
                  refine zr_getI (pc := 88) hV 0 dX3_doOn_88 fX3_107_10 rfl rfl (zc_k147 zc_s147) (zc_pos zc_s147 rfl) ?_
                  have t44 := zc_g147_0 hσ_42 zc_s147
                  have t45 : σ_42 147 0 = σ 147 0 := hFσ_42 _ _ (zc_out_at zc_s147 rfl)
                  have t46 := zc_g147_0 hσ_42 zc_s147
                  have t47 : σ_42 147 0 = σ 147 0 := hFσ_42 _ _ (zc_out_at zc_s147 rfl)
                  refine zr_callSp (pc := 91) hV [ZI (σ_42 (this + 4) x2_42), ZI r57, ZI r84, ZI (σ_42 147 0)] (st := []) (c_X3_combine (σ := σ_42) (σ_42 (this + 4) x2_42) r57 r84 (σ_42 147 0) (by omega) (by omega) (by omega) (by omega)) dX3_doOn_91 mX3_110 (by decide) (Nat.le_of_ble_eq_true rfl) (Nat.le_refl _) (fun r91 hr91 pr91 => ?_)
                  refine zr_istore_n (pc := 94) hV [some (ZR this), some (ZR 147), some (ZI x2_42), some (ZI r91)] dX3_doOn_94 rfl (by decide) rfl rfl ?_
                  show V 95 [some (ZR this), some (ZR 147), some (ZI x2_42), some (ZI r91)] [] 284 σ_42
                  refine zr_aload_n (pc := 95) hV dX3_doOn_95 rfl rfl ?_
                  refine zr_aload_n (pc := 96) hV dX3_doOn_96 rfl rfl ?_
                  refine zr_getR (pc := 97) hV 7 (this + 2) dX3_doOn_97 fX3_15 rfl rfl (zc_k4 kthis) (zc_pos kthis rfl) (zc_g4_7 hσ_42 kthis) (zc_pos (zc_p4_2 kthis) rfl).1 ?_
                  refine zr_iload_n (pc := 100) hV dX3_doOn_100 rfl rfl ?_
                  refine zr_iald (pc := 101) hV dX3_doOn_101 (zc_k6 (zc_p4_2 kthis)) (zc_pos (zc_p4_2 kthis) rfl) rfl (by omega) ?_
                  have t48 := zc_ga6 hσ_42 (zc_p4_2 kthis) x2_42
                  have t49 : σ_42 (this + 2) x2_42 = σ (this + 2) x2_42 := hFσ_42 _ _ (zc_out_ar (zc_p4_2 kthis) rfl)
                  refine zr_iload_n (pc := 102) hV dX3_doOn_102 rfl rfl ?_
                  refine zr_callUv (pc := 103) hV [ZI (σ_42 (this + 2) x2_42), ZI r91] (st := []) (c_X10_become_t (σ := σ_42) hσ_42 (σ_42 (this + 2) x2_42) r91 (by omega) (by omega)) dX3_doOn_103 mX3_114_10 (zc_k147 zc_s147) (zc_pos zc_s147 rfl) (by decide) (Nat.le_of_ble_eq_true rfl) (Nat.le_refl _) (fun σ103 pσ103 => ?_)
                  obtain ⟨hσ103, hfσ103, pσ103⟩ := pσ103
                  have hFσ103 := zc_Fc hfσ103 rfl hFσ_42
                  refine zr_iinc (pc := 106) hV [some (ZR this), some (ZR 147), some (ZI (x2_42 + 1)), some (ZI r91)] (x2_42 + 1) dX3_doOn_106 rfl rfl (by decide) rfl rfl ?_
                  refine zr_goto (pc := 109) hV 42 dX3_doOn_109 (by decide) ?_
                  refine zr_sub (pc := 42) hV [some (ZR this), some (ZR 147), some (ZI (x2_42 + 1)), none] (⟨rfl, rfl, rfl, trivial⟩) ?_
                  exact ih42 (x2_42 + 1) σ103 (by omega) hσ103 hFσ103 (by omega)
          exact L42 (3 - (0 : Int) + 1 : Int).toNat 0 σ (by omega) hσ hFσ (by omega)
        · exfalso; omega
      · show V 31 [some (ZR this), some (ZR 147), none, none] [ZI 0] 284 σ
        refine zr_iconst (pc := 31) hV 1 dX3_doOn_31 rfl ?_
        refine zr_goto (pc := 32) hV 36 dX3_doOn_32 (by decide) ?_
        show V 36 [some (ZR this), some (ZR 147), none, none] [ZI 1, ZI 0] 284 σ
        refine zr_icmp_eq (pc := 36) hV 40 dX3_doOn_36 (by decide) ⟨by decide, by decide⟩ ⟨by decide, by decide⟩ (fun c50 => ?_) (fun c50 => ?_)
        · exfalso; omega
        · show V 39 [some (ZR this), some (ZR 147), none, none] [] 284 σ
          exact zr_vret (pc := 39) hV dX3_doOn_39 rfl rfl ⟨rfl, hσ, hFσ, trivial⟩
    · show V 18 [some (ZR this), some (ZR 147), none, none] [] 284 σ
      refine zr_iconst (pc := 18) hV 1 dX3_doOn_18 rfl ?_
      refine zr_goto (pc := 19) hV 23 dX3_doOn_19 (by decide) ?_
      show V 23 [some (ZR this), some (ZR 147), none, none] [ZI 1] 284 σ
      refine zr_aload_n (pc := 23) hV dX3_doOn_23 rfl rfl ?_
      refine zr_getI (pc := 24) hV 4 dX3_doOn_24 fX3_43 rfl rfl (zc_k4 kthis) (zc_pos kthis rfl) ?_
      have t51 := zc_g4_4 hσ kthis
      refine zr_iconst (pc := 27) hV 1 dX3_doOn_27 rfl ?_
      refine zr_icmp_ne (pc := 28) hV 35 dX3_doOn_28 (by decide) (by omega) ⟨by decide, by decide⟩ (fun c52 => ?_) (fun c52 => ?_)
      · show V 35 [some (ZR this), some (ZR 147), none, none] [ZI 1] 284 σ
        refine zr_iconst (pc := 35) hV 0 dX3_doOn_35 rfl ?_
        show V 36 [some (ZR this), some (ZR 147), none, none] [ZI 0, ZI 1] 284 σ
        refine zr_icmp_eq (pc := 36) hV 40 dX3_doOn_36 (by decide) ⟨by decide, by decide⟩ ⟨by decide, by decide⟩ (fun c53 => ?_) (fun c53 => ?_)
        · exfalso; omega
        · show V 39 [some (ZR this), some (ZR 147), none, none] [] 284 σ
          exact zr_vret (pc := 39) hV dX3_doOn_39 rfl rfl ⟨rfl, hσ, hFσ, trivial⟩
      · show V 31 [some (ZR this), some (ZR 147), none, none] [ZI 1] 284 σ
        refine zr_iconst (pc := 31) hV 1 dX3_doOn_31 rfl ?_
        refine zr_goto (pc := 32) hV 36 dX3_doOn_32 (by decide) ?_
        show V 36 [some (ZR this), some (ZR 147), none, none] [ZI 1, ZI 1] 284 σ
        refine zr_icmp_eq (pc := 36) hV 40 dX3_doOn_36 (by decide) ⟨by decide, by decide⟩ ⟨by decide, by decide⟩ (fun c54 => ?_) (fun c54 => ?_)
        · show V 40 [some (ZR this), some (ZR 147), none, none] [] 284 σ
          refine zr_iconst (pc := 40) hV 0 dX3_doOn_40 rfl ?_
          refine zr_istore_n (pc := 41) hV [some (ZR this), some (ZR 147), some (ZI 0), none] dX3_doOn_41 rfl (by decide) rfl rfl ?_
          have L42 : ∀ (fuel : Nat) (x2_42 : Int) (σ_42 : zq_S), (0 ≤ x2_42 ∧ x2_42 ≤ 3) → (zc_T σ_42) → (zc_Fr [(147, 3), (147, 4), (147, 6), (148, -1), (149, -1), (151, -1), (152, -1)] σ σ_42) → 3 - x2_42 < (fuel : Int) → V 42 [some (ZR this), some (ZR 147), some (ZI x2_42), none] [] 284 σ_42 := by
            intro fuel
            induction fuel with
            | zero =>
              intro x2_42 σ_42 hx2_42 hσ_42 hFσ_42 hm42
              exfalso; omega
            | succ fuel ih =>
              intro x2_42 σ_42 hx2_42 hσ_42 hFσ_42 hm42
              have ih42 := ih
              show V 42 [some (ZR this), some (ZR 147), some (ZI x2_42), none] [] 284 σ_42
              refine zr_iload_n (pc := 42) hV dX3_doOn_42 rfl rfl ?_
              refine zr_aload_n (pc := 43) hV dX3_doOn_43 rfl rfl ?_
              refine zr_getI (pc := 44) hV 6 dX3_doOn_44 fX3_49 rfl rfl (zc_k4 kthis) (zc_pos kthis rfl) ?_
              have t55 := zc_g4_6 hσ_42 kthis
              have t56 : σ_42 this 6 = σ this 6 := hFσ_42 _ _ (zc_out_at kthis rfl)
              refine zr_icmp_ge (pc := 47) hV 112 dX3_doOn_47 (by decide) (by omega) (by omega) (fun c57 => ?_) (fun c57 => ?_)
              · show V 112 [some (ZR this), some (ZR 147), some (ZI x2_42), none] [] 284 σ_42
                exact zr_vret (pc := 112) hV dX3_doOn_112 rfl rfl ⟨rfl, hσ_42, hFσ_42, trivial⟩
              · show V 50 [some (ZR this), some (ZR 147), some (ZI x2_42), none] [] 284 σ_42
                refine zr_aload_n (pc := 50) hV dX3_doOn_50 rfl rfl ?_
                refine zr_aload_n (pc := 51) hV dX3_doOn_51 rfl rfl ?_
                refine zr_getR (pc := 52) hV 8 (this + 3) dX3_doOn_52 fX3_18 rfl rfl (zc_k4 kthis) (zc_pos kthis rfl) (zc_g4_8 hσ_42 kthis) (zc_pos (zc_p4_3 kthis) rfl).1 ?_
                refine zr_iload_n (pc := 55) hV dX3_doOn_55 rfl rfl ?_
                refine zr_iald (pc := 56) hV dX3_doOn_56 (zc_k7 (zc_p4_3 kthis)) (zc_pos (zc_p4_3 kthis) rfl) rfl (by omega) ?_
                have t58 := zc_ga7 hσ_42 (zc_p4_3 kthis) x2_42
                have t59 : σ_42 (this + 3) x2_42 = σ (this + 3) x2_42 := hFσ_42 _ _ (zc_out_ar (zc_p4_3 kthis) rfl)
                refine zr_callUp (pc := 57) hV [ZI (σ_42 (this + 3) x2_42)] (st := []) (c_X10_wordOf_t (σ := σ_42) hσ_42 (σ_42 (this + 3) x2_42) (by omega) (zc_ga7 hσ_42 (zc_p4_3 kthis) _).2.2) dX3_doOn_57 mX3_102_10 (zc_k147 zc_s147) (zc_pos zc_s147 rfl) (by decide) (Nat.le_of_ble_eq_true rfl) (Nat.le_refl _) (fun r57 hr57 pr57 => ?_)
                refine zr_istore_n (pc := 60) hV [some (ZR this), some (ZR 147), some (ZI x2_42), some (ZI r57)] dX3_doOn_60 rfl (by decide) rfl rfl ?_
                refine zr_aload_n (pc := 61) hV dX3_doOn_61 rfl rfl ?_
                refine zr_getR (pc := 62) hV 9 (this + 4) dX3_doOn_62 fX3_21 rfl rfl (zc_k4 kthis) (zc_pos kthis rfl) (zc_g4_9 hσ_42 kthis) (zc_pos (zc_p4_4 kthis) rfl).1 ?_
                refine zr_iload_n (pc := 65) hV dX3_doOn_65 rfl rfl ?_
                refine zr_iald (pc := 66) hV dX3_doOn_66 (zc_k8 (zc_p4_4 kthis)) (zc_pos (zc_p4_4 kthis) rfl) rfl (by omega) ?_
                have t60 := zc_ga8 hσ_42 (zc_p4_4 kthis) x2_42
                have t61 : σ_42 (this + 4) x2_42 = σ (this + 4) x2_42 := hFσ_42 _ _ (zc_out_ar (zc_p4_4 kthis) rfl)
                refine zr_if_eq (pc := 67) hV 95 dX3_doOn_67 (by decide) (by omega) (fun c62 => ?_) (fun c62 => ?_)
                · show V 95 [some (ZR this), some (ZR 147), some (ZI x2_42), some (ZI r57)] [] 284 σ_42
                  refine zr_aload_n (pc := 95) hV dX3_doOn_95 rfl rfl ?_
                  refine zr_aload_n (pc := 96) hV dX3_doOn_96 rfl rfl ?_
                  refine zr_getR (pc := 97) hV 7 (this + 2) dX3_doOn_97 fX3_15 rfl rfl (zc_k4 kthis) (zc_pos kthis rfl) (zc_g4_7 hσ_42 kthis) (zc_pos (zc_p4_2 kthis) rfl).1 ?_
                  refine zr_iload_n (pc := 100) hV dX3_doOn_100 rfl rfl ?_
                  refine zr_iald (pc := 101) hV dX3_doOn_101 (zc_k6 (zc_p4_2 kthis)) (zc_pos (zc_p4_2 kthis) rfl) rfl (by omega) ?_
                  have t63 := zc_ga6 hσ_42 (zc_p4_2 kthis) x2_42
                  have t64 : σ_42 (this + 2) x2_42 = σ (this + 2) x2_42 := hFσ_42 _ _ (zc_out_ar (zc_p4_2 kthis) rfl)
                  refine zr_iload_n (pc := 102) hV dX3_doOn_102 rfl rfl ?_
                  refine zr_callUv (pc := 103) hV [ZI (σ_42 (this + 2) x2_42), ZI r57] (st := []) (c_X10_become_t (σ := σ_42) hσ_42 (σ_42 (this + 2) x2_42) r57 (by omega) (by omega)) dX3_doOn_103 mX3_114_10 (zc_k147 zc_s147) (zc_pos zc_s147 rfl) (by decide) (Nat.le_of_ble_eq_true rfl) (Nat.le_refl _) (fun σ103 pσ103 => ?_)
                  obtain ⟨hσ103, hfσ103, pσ103⟩ := pσ103
                  have hFσ103 := zc_Fc hfσ103 rfl hFσ_42
                  refine zr_iinc (pc := 106) hV [some (ZR this), some (ZR 147), some (ZI (x2_42 + 1)), some (ZI r57)] (x2_42 + 1) dX3_doOn_106 rfl rfl (by decide) rfl rfl ?_
                  refine zr_goto (pc := 109) hV 42 dX3_doOn_109 (by decide) ?_
                  refine zr_sub (pc := 42) hV [some (ZR this), some (ZR 147), some (ZI (x2_42 + 1)), none] (⟨rfl, rfl, rfl, trivial⟩) ?_
                  exact ih42 (x2_42 + 1) σ103 (by omega) hσ103 hFσ103 (by omega)
                · show V 70 [some (ZR this), some (ZR 147), some (ZI x2_42), some (ZI r57)] [] 284 σ_42
                  refine zr_aload_n (pc := 70) hV dX3_doOn_70 rfl rfl ?_
                  refine zr_getR (pc := 71) hV 9 (this + 4) dX3_doOn_71 fX3_21 rfl rfl (zc_k4 kthis) (zc_pos kthis rfl) (zc_g4_9 hσ_42 kthis) (zc_pos (zc_p4_4 kthis) rfl).1 ?_
                  refine zr_iload_n (pc := 74) hV dX3_doOn_74 rfl rfl ?_
                  refine zr_iald (pc := 75) hV dX3_doOn_75 (zc_k8 (zc_p4_4 kthis)) (zc_pos (zc_p4_4 kthis) rfl) rfl (by omega) ?_
                  have t65 := zc_ga8 hσ_42 (zc_p4_4 kthis) x2_42
                  have t66 : σ_42 (this + 4) x2_42 = σ (this + 4) x2_42 := hFσ_42 _ _ (zc_out_ar (zc_p4_4 kthis) rfl)
                  refine zr_iload_n (pc := 76) hV dX3_doOn_76 rfl rfl ?_
                  refine zr_aload_n (pc := 77) hV dX3_doOn_77 rfl rfl ?_
                  refine zr_aload_n (pc := 78) hV dX3_doOn_78 rfl rfl ?_
                  refine zr_getR (pc := 79) hV 10 (this + 5) dX3_doOn_79 fX3_24 rfl rfl (zc_k4 kthis) (zc_pos kthis rfl) (zc_g4_10 hσ_42 kthis) (zc_pos (zc_p4_5 kthis) rfl).1 ?_
                  refine zr_iload_n (pc := 82) hV dX3_doOn_82 rfl rfl ?_
                  refine zr_iald (pc := 83) hV dX3_doOn_83 (zc_k9 (zc_p4_5 kthis)) (zc_pos (zc_p4_5 kthis) rfl) rfl (by omega) ?_
                  have t67 := zc_ga9 hσ_42 (zc_p4_5 kthis) x2_42
                  have t68 : σ_42 (this + 5) x2_42 = σ (this + 5) x2_42 := hFσ_42 _ _ (zc_out_ar (zc_p4_5 kthis) rfl)
                  refine zr_callUp (pc := 84) hV [ZI (σ_42 (this + 5) x2_42)] (st := [ZI r57, ZI (σ_42 (this + 4) x2_42)]) (c_X10_wordOf_t (σ := σ_42) hσ_42 (σ_42 (this + 5) x2_42) (by omega) (zc_ga9 hσ_42 (zc_p4_5 kthis) _).2.2) dX3_doOn_84 mX3_102_10 (zc_k147 zc_s147) (zc_pos zc_s147 rfl) (by decide) (Nat.le_of_ble_eq_true rfl) (Nat.le_refl _) (fun r84 hr84 pr84 => ?_)
                  refine zr_aload_n (pc := 87) hV dX3_doOn_87 rfl rfl ?_
                  refine zr_getI (pc := 88) hV 0 dX3_doOn_88 fX3_107_10 rfl rfl (zc_k147 zc_s147) (zc_pos zc_s147 rfl) ?_
                  have t69 := zc_g147_0 hσ_42 zc_s147
                  have t70 : σ_42 147 0 = σ 147 0 := hFσ_42 _ _ (zc_out_at zc_s147 rfl)
                  have t71 := zc_g147_0 hσ_42 zc_s147
                  have t72 : σ_42 147 0 = σ 147 0 := hFσ_42 _ _ (zc_out_at zc_s147 rfl)
                  refine zr_callSp (pc := 91) hV [ZI (σ_42 (this + 4) x2_42), ZI r57, ZI r84, ZI (σ_42 147 0)] (st := []) (c_X3_combine (σ := σ_42) (σ_42 (this + 4) x2_42) r57 r84 (σ_42 147 0) (by omega) (by omega) (by omega) (by omega)) dX3_doOn_91 mX3_110 (by decide) (Nat.le_of_ble_eq_true rfl) (Nat.le_refl _) (fun r91 hr91 pr91 => ?_)
                  refine zr_istore_n (pc := 94) hV [some (ZR this), some (ZR 147), some (ZI x2_42), some (ZI r91)] dX3_doOn_94 rfl (by decide) rfl rfl ?_
                  show V 95 [some (ZR this), some (ZR 147), some (ZI x2_42), some (ZI r91)] [] 284 σ_42
                  refine zr_aload_n (pc := 95) hV dX3_doOn_95 rfl rfl ?_
                  refine zr_aload_n (pc := 96) hV dX3_doOn_96 rfl rfl ?_
                  refine zr_getR (pc := 97) hV 7 (this + 2) dX3_doOn_97 fX3_15 rfl rfl (zc_k4 kthis) (zc_pos kthis rfl) (zc_g4_7 hσ_42 kthis) (zc_pos (zc_p4_2 kthis) rfl).1 ?_
                  refine zr_iload_n (pc := 100) hV dX3_doOn_100 rfl rfl ?_
                  refine zr_iald (pc := 101) hV dX3_doOn_101 (zc_k6 (zc_p4_2 kthis)) (zc_pos (zc_p4_2 kthis) rfl) rfl (by omega) ?_
                  have t73 := zc_ga6 hσ_42 (zc_p4_2 kthis) x2_42
                  have t74 : σ_42 (this + 2) x2_42 = σ (this + 2) x2_42 := hFσ_42 _ _ (zc_out_ar (zc_p4_2 kthis) rfl)
                  refine zr_iload_n (pc := 102) hV dX3_doOn_102 rfl rfl ?_
                  refine zr_callUv (pc := 103) hV [ZI (σ_42 (this + 2) x2_42), ZI r91] (st := []) (c_X10_become_t (σ := σ_42) hσ_42 (σ_42 (this + 2) x2_42) r91 (by omega) (by omega)) dX3_doOn_103 mX3_114_10 (zc_k147 zc_s147) (zc_pos zc_s147 rfl) (by decide) (Nat.le_of_ble_eq_true rfl) (Nat.le_refl _) (fun σ103 pσ103 => ?_)
                  obtain ⟨hσ103, hfσ103, pσ103⟩ := pσ103
                  have hFσ103 := zc_Fc hfσ103 rfl hFσ_42
                  refine zr_iinc (pc := 106) hV [some (ZR this), some (ZR 147), some (ZI (x2_42 + 1)), some (ZI r91)] (x2_42 + 1) dX3_doOn_106 rfl rfl (by decide) rfl rfl ?_
                  refine zr_goto (pc := 109) hV 42 dX3_doOn_109 (by decide) ?_
                  refine zr_sub (pc := 42) hV [some (ZR this), some (ZR 147), some (ZI (x2_42 + 1)), none] (⟨rfl, rfl, rfl, trivial⟩) ?_
                  exact ih42 (x2_42 + 1) σ103 (by omega) hσ103 hFσ103 (by omega)
          exact L42 (3 - (0 : Int) + 1 : Int).toNat 0 σ (by omega) hσ hFσ (by omega)
        · exfalso; omega

