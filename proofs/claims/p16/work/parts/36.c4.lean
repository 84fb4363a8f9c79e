set_option maxHeartbeats 800000 in
theorem c_X4_fieldNamed {σ : zq_S} (c : Int) (q0 : zq_in c) : zq_C zc_w yX4_fieldNamed cX4_fieldNamed 1 (some .int) 0 0 284 284 [ZI c] σ (zq_pp σ (fun r => ((-1) ≤ r ∧ r ≤ 3))) := by
  refine zq_C_of (by decide) (Nat.le_refl _) (Nat.le_of_ble_eq_true rfl) [some (ZI c)] rfl (fun V hV => ?_)
  show V 0 [some (ZI c)] [] 284 σ
  refine zr_iload_n (pc := 0) hV dX4_fieldNamed_0 rfl rfl ?_
  by_cases c1 : c = 100
  · refine zr_eqI (V := V) 100 c1 ?_
    refine zr_lookup (pc := 1) hV 44 dX4_fieldNamed_1 ⟨by decide, by decide⟩ (by decide) rfl (by decide) ?_
    show V 44 [some (ZI c)] [] 284 σ
    refine zr_iconst (pc := 44) hV 0 dX4_fieldNamed_44 rfl ?_
    exact zr_iret (pc := 45) hV dX4_fieldNamed_45 rfl rfl ⟨rfl, _, rfl, ⟨by decide, by decide⟩, (by omega)⟩
  by_cases c2 : c = 105
  · refine zr_eqI (V := V) 105 c2 ?_
    refine zr_lookup (pc := 1) hV 50 dX4_fieldNamed_1 ⟨by decide, by decide⟩ (by decide) rfl (by decide) ?_
    show V 50 [some (ZI c)] [] 284 σ
    refine zr_iconst (pc := 50) hV 3 dX4_fieldNamed_50 rfl ?_
    exact zr_iret (pc := 51) hV dX4_fieldNamed_51 rfl rfl ⟨rfl, _, rfl, ⟨by decide, by decide⟩, (by omega)⟩
  by_cases c3 : c = 115
  · refine zr_eqI (V := V) 115 c3 ?_
    refine zr_lookup (pc := 1) hV 46 dX4_fieldNamed_1 ⟨by decide, by decide⟩ (by decide) rfl (by decide) ?_
    show V 46 [some (ZI c)] [] 284 σ
    refine zr_iconst (pc := 46) hV 1 dX4_fieldNamed_46 rfl ?_
    exact zr_iret (pc := 47) hV dX4_fieldNamed_47 rfl rfl ⟨rfl, _, rfl, ⟨by decide, by decide⟩, (by omega)⟩
  by_cases c4 : c = 116
  · refine zr_eqI (V := V) 116 c4 ?_
    refine zr_lookup (pc := 1) hV 48 dX4_fieldNamed_1 ⟨by decide, by decide⟩ (by decide) rfl (by decide) ?_
    show V 48 [some (ZI c)] [] 284 σ
    refine zr_iconst (pc := 48) hV 2 dX4_fieldNamed_48 rfl ?_
    exact zr_iret (pc := 49) hV dX4_fieldNamed_49 rfl rfl ⟨rfl, _, rfl, ⟨by decide, by decide⟩, (by omega)⟩
  refine zr_lookup (pc := 1) (off := 51) hV 52 dX4_fieldNamed_1 (by omega) (by decide) (by simp only [Op.lookupswitch.offset]; repeat (split <;> try omega)) (by decide) ?_
  show V 52 [some (ZI c)] [] 284 σ
  refine zr_iconst (pc := 52) hV (-1) dX4_fieldNamed_52 rfl ?_
  exact zr_iret (pc := 53) hV dX4_fieldNamed_53 rfl rfl ⟨rfl, _, rfl, ⟨by decide, by decide⟩, (by omega)⟩
set_option maxHeartbeats 800000 in
theorem c_X4_fieldInLook {σ : zq_S} (hσ : zc_T σ) (c : Int) (q0 : zq_in c) : zq_C zc_w yX4_fieldInLook cX4_fieldInLook 3 (some .int) 1 21 284 284 [ZR 132, ZI c] σ (zq_pp σ (fun r => ((-1) ≤ r ∧ r ≤ 3))) := by
  refine zq_C_of (by decide) (Nat.le_refl _) (Nat.le_of_ble_eq_true rfl) [some (ZR 132), some (ZI c), none] rfl (fun V hV => ?_)
  show V 0 [some (ZR 132), some (ZI c), none] [] 284 σ
  refine zr_iload_n (pc := 0) hV dX4_fieldInLook_0 rfl rfl ?_
  refine zr_callSp (pc := 1) hV [ZI c] (st := []) (c_X4_fieldNamed (σ := σ) c (by omega)) dX4_fieldInLook_1 mX4_80 (by decide) (Nat.le_of_ble_eq_true rfl) (Nat.le_refl _) (fun r1 hr1 pr1 => ?_)
  refine zr_istore_n (pc := 4) hV [some (ZR 132), some (ZI c), some (ZI r1)] dX4_fieldInLook_4 rfl (by decide) rfl rfl ?_
  refine zr_iload_n (pc := 5) hV dX4_fieldInLook_5 rfl rfl ?_
  refine zr_if_lt (pc := 6) hV 27 dX4_fieldInLook_6 (by decide) (by omega) (fun c1 => ?_) (fun c1 => ?_)
  · show V 27 [some (ZR 132), some (ZI c), some (ZI r1)] [] 284 σ
    refine zr_iconst (pc := 27) hV (-1) dX4_fieldInLook_27 rfl ?_
    show V 28 [some (ZR 132), some (ZI c), some (ZI r1)] [ZI (-1)] 284 σ
    exact zr_iret (pc := 28) hV dX4_fieldInLook_28 rfl rfl ⟨rfl, _, rfl, ⟨by decide, by decide⟩, (by omega)⟩
  · show V 9 [some (ZR 132), some (ZI c), some (ZI r1)] [] 284 σ
    refine zr_aload_n (pc := 9) hV dX4_fieldInLook_9 rfl rfl ?_
    refine zr_getR (pc := 10) hV 1 3 dX4_fieldInLook_10 fX4_19 rfl rfl (zc_k132 zc_s132) (zc_pos zc_s132 rfl) (zc_g132_1 hσ zc_s132) (by decide) ?_
    obtain ⟨o13, eo13⟩ : ∃ o, σ 3 5 = o := ⟨_, rfl⟩
    have ko13 : zc_kd o13 = 4 := eo13 ▸ zc_g3_5 hσ zc_s3
    have po13 := zc_pos ko13 rfl
    refine zr_getR (pc := 13) hV 5 o13 dX4_fieldInLook_13 fX4_49 rfl rfl (zc_k3 zc_s3) (zc_pos zc_s3 rfl) (by omega) (zc_pos ko13 rfl).1 ?_
    refine zr_iload_n (pc := 16) hV dX4_fieldInLook_16 rfl rfl ?_
    refine zr_callVp (pc := 17) hV [ZI r1] (st := []) (c_X3_hasField (σ := σ) hσ o13 ko13 r1 (by omega)) dX4_fieldInLook_17 mX4_99 (zc_k4 ko13) (zc_pos ko13 rfl) (by decide) (Nat.le_of_ble_eq_true rfl) (Nat.le_refl _) (fun r17 hr17 pr17 => ?_)
    refine zr_if_eq (pc := 20) hV 27 dX4_fieldInLook_20 (by decide) (by omega) (fun c2 => ?_) (fun c2 => ?_)
    · show V 27 [some (ZR 132), some (ZI c), some (ZI r1)] [] 284 σ
      refine zr_iconst (pc := 27) hV (-1) dX4_fieldInLook_27 rfl ?_
      show V 28 [some (ZR 132), some (ZI c), some (ZI r1)] [ZI (-1)] 284 σ
      exact zr_iret (pc := 28) hV dX4_fieldInLook_28 rfl rfl ⟨rfl, _, rfl, ⟨by decide, by decide⟩, (by omega)⟩
    · show V 23 [some (ZR 132), some (ZI c), some (ZI r1)] [] 284 σ
      refine zr_iload_n (pc := 23) hV dX4_fieldInLook_23 rfl rfl ?_
      refine zr_goto (pc := 24) hV 28 dX4_fieldInLook_24 (by decide) ?_
      show V 28 [some (ZR 132), some (ZI c), some (ZI r1)] [ZI r1] 284 σ
      exact zr_iret (pc := 28) hV dX4_fieldInLook_28 rfl rfl ⟨rfl, _, rfl, (by omega), (by omega)⟩
set_option maxHeartbeats 800000 in
theorem c_X4_areFieldsAsTold {σ : zq_S} (hσ : zc_T σ) (order : Int) (korder : zc_kd order = 4)  : zq_C zc_w yX4_areFieldsAsTold cX4_areFieldsAsTold 3 (some .boolean) 2 41 284 284 [ZR 132, ZR order] σ (zq_pp σ (fun r => (0 ≤ r ∧ r ≤ 1))) := by
  refine zq_C_of (by decide) (Nat.le_refl _) (Nat.le_of_ble_eq_true rfl) [some (ZR 132), some (ZR order), none] rfl (fun V hV => ?_)
  have poorder := zc_pos korder rfl
  show V 0 [some (ZR 132), some (ZR order), none] [] 284 σ
  refine zr_iconst (pc := 0) hV 0 dX4_areFieldsAsTold_0 rfl ?_
  refine zr_istore_n (pc := 1) hV [some (ZR 132), some (ZR order), some (ZI 0)] dX4_areFieldsAsTold_1 rfl (by decide) rfl rfl ?_
  have L2 : ∀ (fuel : Nat) (x2_2 : Int), (0 ≤ x2_2 ∧ x2_2 ≤ 3) → 3 - x2_2 < (fuel : Int) → V 2 [some (ZR 132), some (ZR order), some (ZI x2_2)] [] 284 σ := by
    intro fuel
    induction fuel with
    | zero =>
      intro x2_2 hx2_2 hm2
      exfalso; omega
    | succ fuel ih =>
      intro x2_2 hx2_2 hm2
      have ih2 := ih
      show V 2 [some (ZR 132), some (ZR order), some (ZI x2_2)] [] 284 σ
      refine zr_iload_n (pc := 2) hV dX4_areFieldsAsTold_2 rfl rfl ?_
      refine zr_iconst (pc := 3) hV 2 dX4_areFieldsAsTold_3 rfl ?_
      refine zr_icmp_gt (pc := 4) hV 38 dX4_areFieldsAsTold_4 (by decide) (by omega) ⟨by decide, by decide⟩ (fun c1 => ?_) (fun c1 => ?_)
      · show V 38 [some (ZR 132), some (ZR order), some (ZI x2_2)] [] 284 σ
        refine zr_aload_n (pc := 38) hV dX4_areFieldsAsTold_38 rfl rfl ?_
        refine zr_iconst (pc := 39) hV 3 dX4_areFieldsAsTold_39 rfl ?_
        refine zr_callVp (pc := 40) hV [ZI 3] (st := []) (c_X3_fieldBits (σ := σ) hσ order korder 3 (by omega)) dX4_areFieldsAsTold_40 mX4_102 (zc_k4 korder) (zc_pos korder rfl) (by decide) (Nat.le_of_ble_eq_true rfl) (Nat.le_refl _) (fun r40 hr40 pr40 => ?_)
        refine zr_aload_n (pc := 43) hV dX4_areFieldsAsTold_43 rfl rfl ?_
        refine zr_getR (pc := 44) hV 1 3 dX4_areFieldsAsTold_44 fX4_19 rfl rfl (zc_k132 zc_s132) (zc_pos zc_s132 rfl) (zc_g132_1 hσ zc_s132) (by decide) ?_
        refine zr_getI (pc := 47) hV 0 dX4_areFieldsAsTold_47 fX4_108 rfl rfl (zc_k3 zc_s3) (zc_pos zc_s3 rfl) ?_
        have t2 := zc_g3_0 hσ zc_s3
        refine zr_icmp_gt (pc := 50) hV 57 dX4_areFieldsAsTold_50 (by decide) (by omega) (by omega) (fun c3 => ?_) (fun c3 => ?_)
        · show V 57 [some (ZR 132), some (ZR order), some (ZI x2_2)] [] 284 σ
          refine zr_iconst (pc := 57) hV 0 dX4_areFieldsAsTold_57 rfl ?_
          show V 58 [some (ZR 132), some (ZR order), some (ZI x2_2)] [ZI 0] 284 σ
          exact zr_zret (pc := 58) hV dX4_areFieldsAsTold_58 rfl rfl (by omega) ⟨rfl, _, rfl, ⟨by decide, by decide⟩, (by omega)⟩
        · show V 53 [some (ZR 132), some (ZR order), some (ZI x2_2)] [] 284 σ
          refine zr_iconst (pc := 53) hV 1 dX4_areFieldsAsTold_53 rfl ?_
          refine zr_goto (pc := 54) hV 58 dX4_areFieldsAsTold_54 (by decide) ?_
          show V 58 [some (ZR 132), some (ZR order), some (ZI x2_2)] [ZI 1] 284 σ
          exact zr_zret (pc := 58) hV dX4_areFieldsAsTold_58 rfl rfl (by omega) ⟨rfl, _, rfl, ⟨by decide, by decide⟩, (by omega)⟩
      · show V 7 [some (ZR 132), some (ZR order), some (ZI x2_2)] [] 284 σ
        refine zr_aload_n (pc := 7) hV dX4_areFieldsAsTold_7 rfl rfl ?_
        refine zr_iload_n (pc := 8) hV dX4_areFieldsAsTold_8 rfl rfl ?_
        refine zr_callVp (pc := 9) hV [ZI x2_2] (st := []) (c_X3_hasField (σ := σ) hσ order korder x2_2 (by omega)) dX4_areFieldsAsTold_9 mX4_99 (zc_k4 korder) (zc_pos korder rfl) (by decide) (Nat.le_of_ble_eq_true rfl) (Nat.le_refl _) (fun r9 hr9 pr9 => ?_)
        refine zr_if_eq (pc := 12) hV 32 dX4_areFieldsAsTold_12 (by decide) (by omega) (fun c4 => ?_) (fun c4 => ?_)
        · show V 32 [some (ZR 132), some (ZR order), some (ZI x2_2)] [] 284 σ
          refine zr_iinc (pc := 32) hV [some (ZR 132), some (ZR order), some (ZI (x2_2 + 1))] (x2_2 + 1) dX4_areFieldsAsTold_32 rfl rfl (by decide) rfl rfl ?_
          refine zr_goto (pc := 35) hV 2 dX4_areFieldsAsTold_35 (by decide) ?_
          exact ih2 (x2_2 + 1) (by omega) (by omega)
        · show V 15 [some (ZR 132), some (ZR order), some (ZI x2_2)] [] 284 σ
          refine zr_aload_n (pc := 15) hV dX4_areFieldsAsTold_15 rfl rfl ?_
          refine zr_iload_n (pc := 16) hV dX4_areFieldsAsTold_16 rfl rfl ?_
          refine zr_callVp (pc := 17) hV [ZI x2_2] (st := []) (c_X3_fieldBits (σ := σ) hσ order korder x2_2 (by omega)) dX4_areFieldsAsTold_17 mX4_102 (zc_k4 korder) (zc_pos korder rfl) (by decide) (Nat.le_of_ble_eq_true rfl) (Nat.le_refl _) (fun r17 hr17 pr17 => ?_)
          refine zr_aload_n (pc := 20) hV dX4_areFieldsAsTold_20 rfl rfl ?_
          refine zr_getR (pc := 21) hV 1 3 dX4_areFieldsAsTold_21 fX4_19 rfl rfl (zc_k132 zc_s132) (zc_pos zc_s132 rfl) (zc_g132_1 hσ zc_s132) (by decide) ?_
          refine zr_getI (pc := 24) hV 1 dX4_areFieldsAsTold_24 fX4_105 rfl rfl (zc_k3 zc_s3) (zc_pos zc_s3 rfl) ?_
          have t5 := zc_g3_1 hσ zc_s3
          refine zr_icmp_eq (pc := 27) hV 32 dX4_areFieldsAsTold_27 (by decide) (by omega) (by omega) (fun c6 => ?_) (fun c6 => ?_)
          · show V 32 [some (ZR 132), some (ZR order), some (ZI x2_2)] [] 284 σ
            refine zr_iinc (pc := 32) hV [some (ZR 132), some (ZR order), some (ZI (x2_2 + 1))] (x2_2 + 1) dX4_areFieldsAsTold_32 rfl rfl (by decide) rfl rfl ?_
            refine zr_goto (pc := 35) hV 2 dX4_areFieldsAsTold_35 (by decide) ?_
            exact ih2 (x2_2 + 1) (by omega) (by omega)
          · show V 30 [some (ZR 132), some (ZR order), some (ZI x2_2)] [] 284 σ
            refine zr_iconst (pc := 30) hV 0 dX4_areFieldsAsTold_30 rfl ?_
            exact zr_zret (pc := 31) hV dX4_areFieldsAsTold_31 rfl rfl (by omega) ⟨rfl, _, rfl, ⟨by decide, by decide⟩, (by omega)⟩
  exact L2 (3 - (0 : Int) + 1 : Int).toNat 0 (by omega) (by omega)
set_option maxHeartbeats 800000 in
theorem c_X4_readNewName {σ : zq_S} (hσ : zc_T σ)   : zq_C zc_w yX4_readNewName cX4_readNewName 2 (some .boolean) 2 43 284 284 [ZR 132] σ (zq_pi (fun r τ => zc_T τ ∧ zc_Fr [(1, 2), (1, 3), (4, 0), (4, 1), (4, 2), (4, 4), (4, 5), (4, 6), (4, 11), (4, 12), (4, 13), (4, 14), (4, 15), (4, 16), (5, -1)] σ τ ∧ ((0 ≤ r ∧ r ≤ 1)))) := by
  refine zq_C_of (by decide) (Nat.le_refl _) (Nat.le_of_ble_eq_true rfl) [some (ZR 132), none] rfl (fun V hV => ?_)
  have hFσ := zc_Fr_rf [(1, 2), (1, 3), (4, 0), (4, 1), (4, 2), (4, 4), (4, 5), (4, 6), (4, 11), (4, 12), (4, 13), (4, 14), (4, 15), (4, 16), (5, -1)] σ
  show V 0 [some (ZR 132), none] [] 284 σ
  refine zr_aload_n (pc := 0) hV dX4_readNewName_0 rfl rfl ?_
  refine zr_getR (pc := 1) hV 1 3 dX4_readNewName_1 fX4_19 rfl rfl (zc_k132 zc_s132) (zc_pos zc_s132 rfl) (zc_g132_1 hσ zc_s132) (by decide) ?_
  obtain ⟨o4, eo4⟩ : ∃ o, σ 3 5 = o := ⟨_, rfl⟩
  have ko4 : zc_kd o4 = 4 := eo4 ▸ zc_g3_5 hσ zc_s3
  have po4 := zc_pos ko4 rfl
  refine zr_getR (pc := 4) hV 5 o4 dX4_readNewName_4 fX4_49 rfl rfl (zc_k3 zc_s3) (zc_pos zc_s3 rfl) (by omega) (zc_pos ko4 rfl).1 ?_
  refine zr_astore_n (pc := 7) hV [some (ZR 132), some (ZR o4)] dX4_readNewName_7 rfl (by decide) rfl rfl ?_
  refine zr_aload_n (pc := 8) hV dX4_readNewName_8 rfl rfl ?_
  refine zr_callVv (pc := 9) hV [] (st := []) (c_X3_clear (σ := σ) hσ o4 ko4) dX4_readNewName_9 mX4_55 (zc_k4 ko4) (zc_pos ko4 rfl) (by decide) (Nat.le_of_ble_eq_true rfl) (Nat.le_refl _) (fun σ9 pσ9 => ?_)
  obtain ⟨hσ9, hfσ9, pσ9⟩ := pσ9
  have hFσ9 := zc_Fc hfσ9 rfl hFσ
  refine zr_aload_n (pc := 12) hV dX4_readNewName_12 rfl rfl ?_
  refine zr_getR (pc := 13) hV 0 1 dX4_readNewName_13 fX4_15 rfl rfl (zc_k132 zc_s132) (zc_pos zc_s132 rfl) (zc_g132_0 hσ9 zc_s132) (by decide) ?_
  refine zr_callVv (pc := 16) hV [] (st := []) (c_X8_rewind (σ := σ9) hσ9) dX4_readNewName_16 mX4_60 (zc_k1 zc_s1) (zc_pos zc_s1 rfl) (by decide) (Nat.le_of_ble_eq_true rfl) (Nat.le_refl _) (fun σ16 pσ16 => ?_)
  obtain ⟨hσ16, hfσ16, pσ16⟩ := pσ16
  have hFσ16 := zc_Fc hfσ16 rfl hFσ9
  refine zr_aload_n (pc := 19) hV dX4_readNewName_19 rfl rfl ?_
  refine zr_aload_n (pc := 20) hV dX4_readNewName_20 rfl rfl ?_
  refine zr_getR (pc := 21) hV 0 1 dX4_readNewName_21 fX4_15 rfl rfl (zc_k132 zc_s132) (zc_pos zc_s132 rfl) (zc_g132_0 hσ16 zc_s132) (by decide) ?_
  refine zr_callVi (pc := 24) hV [] (st := [ZR o4]) (c_X8_takeName (σ := σ16) hσ16) dX4_readNewName_24 mX4_63 (zc_k1 zc_s1) (zc_pos zc_s1 rfl) (by decide) (Nat.le_of_ble_eq_true rfl) (Nat.le_refl _) (fun r24 σ24 hr24 pσ24 => ?_)
  obtain ⟨hσ24, hfσ24, pσ24⟩ := pσ24
  have hFσ24 := zc_Fc hfσ24 rfl hFσ16
  refine zr_putI (pc := 27) hV 0 dX4_readNewName_27 fX4_66 rfl rfl rfl (zc_k4 ko4) (zc_pos ko4 rfl) (fun σ27 eσ27 => ?_)
  have hσ27 : zc_T σ27 := zc_u4_0 eσ27 hσ24 ko4 (by omega)
  have hFσ27 := zc_Fw eσ27 ko4 rfl hFσ24
  refine zr_aload_n (pc := 30) hV dX4_readNewName_30 rfl rfl ?_
  refine zr_getI (pc := 31) hV 0 dX4_readNewName_31 fX4_66 rfl rfl (zc_k4 ko4) (zc_pos ko4 rfl) ?_
  have t1 := zc_g4_0 hσ27 ko4
  have t2 : σ27 o4 0 = r24 := by rw [eσ27]; exact zq_up_same _ _ _ _
  refine zr_if_ne (pc := 34) hV 39 dX4_readNewName_34 (by decide) (by omega) (fun c3 => ?_) (fun c3 => ?_)
  · show V 39 [some (ZR 132), some (ZR o4)] [] 284 σ27
    refine zr_aload_n (pc := 39) hV dX4_readNewName_39 rfl rfl ?_
    refine zr_getR (pc := 40) hV 1 3 dX4_readNewName_40 fX4_19 rfl rfl (zc_k132 zc_s132) (zc_pos zc_s132 rfl) (zc_g132_1 hσ27 zc_s132) (by decide) ?_
    refine zr_aload_n (pc := 43) hV dX4_readNewName_43 rfl rfl ?_
    refine zr_getI (pc := 44) hV 0 dX4_readNewName_44 fX4_66 rfl rfl (zc_k4 ko4) (zc_pos ko4 rfl) ?_
    have t4 := zc_g4_0 hσ27 ko4
    have t5 : σ27 o4 0 = r24 := by rw [eσ27]; exact zq_up_same _ _ _ _
    have t6 := zc_g4_0 hσ27 ko4
    have t7 : σ27 o4 0 = r24 := by rw [eσ27]; exact zq_up_same _ _ _ _
    refine zr_callVp (pc := 47) hV [ZI (σ27 o4 0)] (st := []) (c_X9_nameNumber (σ := σ27) hσ27 (σ27 o4 0) (by omega)) dX4_readNewName_47 mX4_70 (zc_k3 zc_s3) (zc_pos zc_s3 rfl) (by decide) (Nat.le_of_ble_eq_true rfl) (Nat.le_refl _) (fun r47 hr47 pr47 => ?_)
    refine zr_if_lt (pc := 50) hV 62 dX4_readNewName_50 (by decide) (by omega) (fun c8 => ?_) (fun c8 => ?_)
    · show V 62 [some (ZR 132), some (ZR o4)] [] 284 σ27
      refine zr_iconst (pc := 62) hV 1 dX4_readNewName_62 rfl ?_
      exact zr_zret (pc := 63) hV dX4_readNewName_63 rfl rfl (by omega) ⟨_, rfl, ⟨by decide, by decide⟩, hσ27, hFσ27, (by omega)⟩
    · show V 53 [some (ZR 132), some (ZR o4)] [] 284 σ27
      refine zr_aload_n (pc := 53) hV dX4_readNewName_53 rfl rfl ?_
      refine zr_getR (pc := 54) hV 0 1 dX4_readNewName_54 fX4_15 rfl rfl (zc_k132 zc_s132) (zc_pos zc_s132 rfl) (zc_g132_0 hσ27 zc_s132) (by decide) ?_
      refine zr_callVv (pc := 57) hV [] (st := []) (c_X8_blameWord (σ := σ27) hσ27) dX4_readNewName_57 mX4_74 (zc_k1 zc_s1) (zc_pos zc_s1 rfl) (by decide) (Nat.le_of_ble_eq_true rfl) (Nat.le_refl _) (fun σ57 pσ57 => ?_)
      obtain ⟨hσ57, hfσ57, pσ57⟩ := pσ57
      have hFσ57 := zc_Fc hfσ57 rfl hFσ27
      refine zr_iconst (pc := 60) hV 0 dX4_readNewName_60 rfl ?_
      exact zr_zret (pc := 61) hV dX4_readNewName_61 rfl rfl (by omega) ⟨_, rfl, ⟨by decide, by decide⟩, hσ57, hFσ57, (by omega)⟩
  · show V 37 [some (ZR 132), some (ZR o4)] [] 284 σ27
    refine zr_iconst (pc := 37) hV 0 dX4_readNewName_37 rfl ?_
    exact zr_zret (pc := 38) hV dX4_readNewName_38 rfl rfl (by omega) ⟨_, rfl, ⟨by decide, by decide⟩, hσ27, hFσ27, (by omega)⟩
set_option maxHeartbeats 800000 in
theorem c_X4_readNameAlone {σ : zq_S} (hσ : zc_T σ)   : zq_C zc_w yX4_readNameAlone cX4_readNameAlone 1 (some .boolean) 3 64 284 284 [ZR 132] σ (zq_pi (fun r τ => zc_T τ ∧ zc_Fr [(1, 2), (1, 3), (4, 0), (4, 1), (4, 2), (4, 4), (4, 5), (4, 6), (4, 11), (4, 12), (4, 13), (4, 14), (4, 15), (4, 16), (5, -1)] σ τ ∧ ((0 ≤ r ∧ r ≤ 1)))) := by
  refine zq_C_of (by decide) (Nat.le_refl _) (Nat.le_of_ble_eq_true rfl) [some (ZR 132)] rfl (fun V hV => ?_)
  have hFσ := zc_Fr_rf [(1, 2), (1, 3), (4, 0), (4, 1), (4, 2), (4, 4), (4, 5), (4, 6), (4, 11), (4, 12), (4, 13), (4, 14), (4, 15), (4, 16), (5, -1)] σ
  show V 0 [some (ZR 132)] [] 284 σ
  refine zr_aload_n (pc := 0) hV dX4_readNameAlone_0 rfl rfl ?_
  refine zr_callVi (pc := 1) hV [] (st := []) (c_X4_readNewName (σ := σ) hσ) dX4_readNameAlone_1 mX4_23 (zc_k132 zc_s132) (zc_pos zc_s132 rfl) (by decide) (Nat.le_of_ble_eq_true rfl) (Nat.le_refl _) (fun r1 σ1 hr1 pσ1 => ?_)
  obtain ⟨hσ1, hfσ1, pσ1⟩ := pσ1
  have hFσ1 := zc_Fc hfσ1 rfl hFσ
  refine zr_if_eq (pc := 4) hV 22 dX4_readNameAlone_4 (by decide) (by omega) (fun c1 => ?_) (fun c1 => ?_)
  · show V 22 [some (ZR 132)] [] 284 σ1
    refine zr_iconst (pc := 22) hV 0 dX4_readNameAlone_22 rfl ?_
    show V 23 [some (ZR 132)] [ZI 0] 284 σ1
    exact zr_zret (pc := 23) hV dX4_readNameAlone_23 rfl rfl (by omega) ⟨_, rfl, ⟨by decide, by decide⟩, hσ1, hFσ1, (by omega)⟩
  · show V 7 [some (ZR 132)] [] 284 σ1
    refine zr_aload_n (pc := 7) hV dX4_readNameAlone_7 rfl rfl ?_
    refine zr_getR (pc := 8) hV 0 1 dX4_readNameAlone_8 fX4_15 rfl rfl (zc_k132 zc_s132) (zc_pos zc_s132 rfl) (zc_g132_0 hσ1 zc_s132) (by decide) ?_
    refine zr_callVi (pc := 11) hV [] (st := []) (c_X8_next (σ := σ1) hσ1) dX4_readNameAlone_11 mX4_45 (zc_k1 zc_s1) (zc_pos zc_s1 rfl) (by decide) (Nat.le_of_ble_eq_true rfl) (Nat.le_refl _) (fun r11 σ11 hr11 pσ11 => ?_)
    obtain ⟨hσ11, hfσ11, pσ11⟩ := pσ11
    have hFσ11 := zc_Fc hfσ11 rfl hFσ1
    refine zr_iconst (pc := 14) hV (-1) dX4_readNameAlone_14 rfl ?_
    refine zr_icmp_ne (pc := 15) hV 22 dX4_readNameAlone_15 (by decide) (by omega) ⟨by decide, by decide⟩ (fun c2 => ?_) (fun c2 => ?_)
    · show V 22 [some (ZR 132)] [] 284 σ11
      refine zr_iconst (pc := 22) hV 0 dX4_readNameAlone_22 rfl ?_
      show V 23 [some (ZR 132)] [ZI 0] 284 σ11
      exact zr_zret (pc := 23) hV dX4_readNameAlone_23 rfl rfl (by omega) ⟨_, rfl, ⟨by decide, by decide⟩, hσ11, hFσ11, (by omega)⟩
    · show V 18 [some (ZR 132)] [] 284 σ11
      refine zr_iconst (pc := 18) hV 1 dX4_readNameAlone_18 rfl ?_
      refine zr_goto (pc := 19) hV 23 dX4_readNameAlone_19 (by decide) ?_
      show V 23 [some (ZR 132)] [ZI 1] 284 σ11
      exact zr_zret (pc := 23) hV dX4_readNameAlone_23 rfl rfl (by omega) ⟨_, rfl, ⟨by decide, by decide⟩, hσ11, hFσ11, (by omega)⟩
set_option maxHeartbeats 800000 in
theorem c_X4_readLook {σ : zq_S} (hσ : zc_T σ)   : zq_C zc_w yX4_readLook cX4_readLook 5 (some .boolean) 3 63 284 284 [ZR 132] σ (zq_pi (fun r τ => zc_T τ ∧ zc_Fr [(1, 2), (4, 1), (4, 2), (5, -1)] σ τ ∧ ((0 ≤ r ∧ r ≤ 1)))) := by
  refine zq_C_of (by decide) (Nat.le_refl _) (Nat.le_of_ble_eq_true rfl) [some (ZR 132), none, none, none, none] rfl (fun V hV => ?_)
  have hFσ := zc_Fr_rf [(1, 2), (4, 1), (4, 2), (5, -1)] σ
  show V 0 [some (ZR 132), none, none, none, none] [] 284 σ
  refine zr_aload_n (pc := 0) hV dX4_readLook_0 rfl rfl ?_
  refine zr_getR (pc := 1) hV 1 3 dX4_readLook_1 fX4_19 rfl rfl (zc_k132 zc_s132) (zc_pos zc_s132 rfl) (zc_g132_1 hσ zc_s132) (by decide) ?_
  obtain ⟨o4, eo4⟩ : ∃ o, σ 3 5 = o := ⟨_, rfl⟩
  have ko4 : zc_kd o4 = 4 := eo4 ▸ zc_g3_5 hσ zc_s3
  have po4 := zc_pos ko4 rfl
  refine zr_getR (pc := 4) hV 5 o4 dX4_readLook_4 fX4_49 rfl rfl (zc_k3 zc_s3) (zc_pos zc_s3 rfl) (by omega) (zc_pos ko4 rfl).1 ?_
  refine zr_astore_n (pc := 7) hV [some (ZR 132), some (ZR o4), none, none, none] dX4_readLook_7 rfl (by decide) rfl rfl ?_
  refine zr_aload_n (pc := 8) hV dX4_readLook_8 rfl rfl ?_
  refine zr_getR (pc := 9) hV 1 3 dX4_readLook_9 fX4_19 rfl rfl (zc_k132 zc_s132) (zc_pos zc_s132 rfl) (zc_g132_1 hσ zc_s132) (by decide) ?_
  refine zr_callVp (pc := 12) hV [] (st := []) (c_X9_bitsInAll (σ := σ) hσ) dX4_readLook_12 mX4_77 (zc_k3 zc_s3) (zc_pos zc_s3 rfl) (by decide) (Nat.le_of_ble_eq_true rfl) (Nat.le_refl _) (fun r12 hr12 pr12 => ?_)
  refine zr_iconst (pc := 15) hV 1 dX4_readLook_15 rfl ?_
  refine zr_ishr (pc := 16) hV dX4_readLook_16 ?_
  have t1 : zq_shr r12 1 = r12 / 2 := zq_shr_c (x := r12) 1 2 (by decide) (by decide) (by omega)
  refine zr_istore_n (pc := 17) hV [some (ZR 132), some (ZR o4), some (ZI (zq_shr r12 1)), none, none] dX4_readLook_17 rfl (by decide) rfl rfl ?_
  have L18 : ∀ (fuel : Nat) (x2_18 : Int) (σ_18 : zq_S), (0 ≤ x2_18 ∧ x2_18 ≤ 2048) → (zc_T σ_18) → (zc_Fr [(1, 2), (4, 1), (4, 2), (5, -1)] σ σ_18) → x2_18 < (fuel : Int) → V 18 [some (ZR 132), some (ZR o4), some (ZI x2_18), none, none] [] 284 σ_18 := by
    intro fuel
    induction fuel with
    | zero =>
      intro x2_18 σ_18 hx2_18 hσ_18 hFσ_18 hm18
      exfalso; omega
    | succ fuel ih =>
      intro x2_18 σ_18 hx2_18 hσ_18 hFσ_18 hm18
      have ih18 := ih
      show V 18 [some (ZR 132), some (ZR o4), some (ZI x2_18), none, none] [] 284 σ_18
      refine zr_iload_n (pc := 18) hV dX4_readLook_18 rfl rfl ?_
      refine zr_if_le (pc := 19) hV 116 dX4_readLook_19 (by decide) (by omega) (fun c2 => ?_) (fun c2 => ?_)
      · show V 116 [some (ZR 132), some (ZR o4), some (ZI x2_18), none, none] [] 284 σ_18
        refine zr_aload_n (pc := 116) hV dX4_readLook_116 rfl rfl ?_
        refine zr_getR (pc := 117) hV 0 1 dX4_readLook_117 fX4_15 rfl rfl (zc_k132 zc_s132) (zc_pos zc_s132 rfl) (zc_g132_0 hσ_18 zc_s132) (by decide) ?_
        refine zr_callVi (pc := 120) hV [] (st := []) (c_X8_next (σ := σ_18) hσ_18) dX4_readLook_120 mX4_45 (zc_k1 zc_s1) (zc_pos zc_s1 rfl) (by decide) (Nat.le_of_ble_eq_true rfl) (Nat.le_refl _) (fun r120 σ120 hr120 pσ120 => ?_)
        obtain ⟨hσ120, hfσ120, pσ120⟩ := pσ120
        have hFσ120 := zc_Fc hfσ120 rfl hFσ_18
        refine zr_pop (pc := 123) hV dX4_readLook_123 (fun _ => rfl) ?_
        refine zr_aload_n (pc := 124) hV dX4_readLook_124 rfl rfl ?_
        refine zr_aload_n (pc := 125) hV dX4_readLook_125 rfl rfl ?_
        refine zr_callVp (pc := 126) hV [ZR o4] (st := []) (c_X4_areFieldsAsTold (σ := σ120) hσ120 o4 ko4) dX4_readLook_126 mX4_95 (zc_k132 zc_s132) (zc_pos zc_s132 rfl) (by decide) (Nat.le_of_ble_eq_true rfl) (Nat.le_refl _) (fun r126 hr126 pr126 => ?_)
        exact zr_zret (pc := 129) hV dX4_readLook_129 rfl rfl (by omega) ⟨_, rfl, (by omega), hσ120, hFσ120, (by omega)⟩
      · show V 22 [some (ZR 132), some (ZR o4), some (ZI x2_18), none, none] [] 284 σ_18
        refine zr_aload_n (pc := 22) hV dX4_readLook_22 rfl rfl ?_
        refine zr_getR (pc := 23) hV 0 1 dX4_readLook_23 fX4_15 rfl rfl (zc_k132 zc_s132) (zc_pos zc_s132 rfl) (zc_g132_0 hσ_18 zc_s132) (by decide) ?_
        refine zr_callVi (pc := 26) hV [] (st := []) (c_X8_next (σ := σ_18) hσ_18) dX4_readLook_26 mX4_45 (zc_k1 zc_s1) (zc_pos zc_s1 rfl) (by decide) (Nat.le_of_ble_eq_true rfl) (Nat.le_refl _) (fun r26 σ26 hr26 pσ26 => ?_)
        obtain ⟨hσ26, hfσ26, pσ26⟩ := pσ26
        have hFσ26 := zc_Fc hfσ26 rfl hFσ_18
        refine zr_istore_n (pc := 29) hV [some (ZR 132), some (ZR o4), some (ZI x2_18), some (ZI r26), none] dX4_readLook_29 rfl (by decide) rfl rfl ?_
        refine zr_iload_n (pc := 30) hV dX4_readLook_30 rfl rfl ?_
        refine zr_callSp (pc := 31) hV [ZI r26] (st := []) (c_X4_fieldNamed (σ := σ26) r26 (by omega)) dX4_readLook_31 mX4_80 (by decide) (Nat.le_of_ble_eq_true rfl) (Nat.le_refl _) (fun r31 hr31 pr31 => ?_)
        refine zr_istore (pc := 34) hV [some (ZR 132), some (ZR o4), some (ZI x2_18), some (ZI r26), some (ZI r31)] dX4_readLook_34 (by decide) rfl rfl ?_
        refine zr_iload (pc := 36) hV dX4_readLook_36 rfl ?_
        refine zr_if_lt (pc := 38) hV 55 dX4_readLook_38 (by decide) (by omega) (fun c3 => ?_) (fun c3 => ?_)
        · show V 55 [some (ZR 132), some (ZR o4), some (ZI x2_18), some (ZI r26), some (ZI r31)] [] 284 σ26
          refine zr_iload_n (pc := 55) hV dX4_readLook_55 rfl rfl ?_
          refine zr_bipush (pc := 56) hV 48 dX4_readLook_56 (by decide) ?_
          have J67 : V 67 [some (ZR 132), some (ZR o4), some (ZI x2_18), some (ZI r26), none] [] 284 σ26 := by
            show V 67 [some (ZR 132), some (ZR o4), some (ZI x2_18), some (ZI r26), none] [] 284 σ26
            refine zr_aload_n (pc := 67) hV dX4_readLook_67 rfl rfl ?_
            refine zr_dup (pc := 68) hV dX4_readLook_68 (fun _ => rfl) ?_
            refine zr_getI (pc := 69) hV 1 dX4_readLook_69 fX4_86 rfl rfl (zc_k4 ko4) (zc_pos ko4 rfl) ?_
            have t4 := zc_g4_1 hσ26 ko4
            have t5 : σ26 o4 1 = σ_18 o4 1 := hfσ26 _ _ (zc_out_at ko4 rfl)
            refine zr_iload_n (pc := 72) hV dX4_readLook_72 rfl rfl ?_
            refine zr_ior (pc := 73) hV dX4_readLook_73 ?_
            have t6 := zq_or_in (σ26 o4 1) x2_18
            refine zr_putI (pc := 74) hV 1 dX4_readLook_74 fX4_86 rfl rfl rfl (zc_k4 ko4) (zc_pos ko4 rfl) (fun σ74 eσ74 => ?_)
            have hσ74 : zc_T σ74 := zc_u4_1 eσ74 hσ26 ko4 (by omega)
            have hFσ74 := zc_Fw eσ74 ko4 rfl hFσ26
            refine zr_aload_n (pc := 77) hV dX4_readLook_77 rfl rfl ?_
            refine zr_dup (pc := 78) hV dX4_readLook_78 (fun _ => rfl) ?_
            refine zr_getI (pc := 79) hV 2 dX4_readLook_79 fX4_89 rfl rfl (zc_k4 ko4) (zc_pos ko4 rfl) ?_
            have t7 := zc_g4_2 hσ74 ko4
            have t8 : σ74 o4 2 = σ26 o4 2 := by rw [eσ74]; exact zq_up_ne (by omega)
            have t9 : σ26 o4 2 = σ_18 o4 2 := hfσ26 _ _ (zc_out_at ko4 rfl)
            refine zr_iload_n (pc := 82) hV dX4_readLook_82 rfl rfl ?_
            refine zr_bipush (pc := 83) hV 49 dX4_readLook_83 (by decide) ?_
            refine zr_icmp_ne (pc := 85) hV 92 dX4_readLook_85 (by decide) (by omega) ⟨by decide, by decide⟩ (fun c10 => ?_) (fun c10 => ?_)
            · show V 92 [some (ZR 132), some (ZR o4), some (ZI x2_18), some (ZI r26), none] [ZI (σ74 o4 2), ZR o4] 284 σ74
              refine zr_iconst (pc := 92) hV 0 dX4_readLook_92 rfl ?_
              show V 93 [some (ZR 132), some (ZR o4), some (ZI x2_18), some (ZI r26), none] [ZI 0, ZI (σ74 o4 2), ZR o4] 284 σ74
              refine zr_ior (pc := 93) hV dX4_readLook_93 ?_
              have t11 := zq_or_b (x := σ74 o4 2) (y := 0) 12 4096 (by decide) (by decide) (by omega) (by omega)
              refine zr_putI (pc := 94) hV 2 dX4_readLook_94 fX4_89 rfl rfl rfl (zc_k4 ko4) (zc_pos ko4 rfl) (fun σ94 eσ94 => ?_)
              have hσ94 : zc_T σ94 := zc_u4_2 eσ94 hσ74 ko4 (by omega)
              have hFσ94 := zc_Fw eσ94 ko4 rfl hFσ74
              refine zr_goto (pc := 97) hV 102 dX4_readLook_97 (by decide) ?_
              show V 102 [some (ZR 132), some (ZR o4), some (ZI x2_18), some (ZI r26), none] [] 284 σ94
              refine zr_aload_n (pc := 102) hV dX4_readLook_102 rfl rfl ?_
              refine zr_getR (pc := 103) hV 0 1 dX4_readLook_103 fX4_15 rfl rfl (zc_k132 zc_s132) (zc_pos zc_s132 rfl) (zc_g132_0 hσ94 zc_s132) (by decide) ?_
              refine zr_callVv (pc := 106) hV [] (st := []) (c_X8_pass (σ := σ94) hσ94) dX4_readLook_106 mX4_92 (zc_k1 zc_s1) (zc_pos zc_s1 rfl) (by decide) (Nat.le_of_ble_eq_true rfl) (Nat.le_refl _) (fun σ106 pσ106 => ?_)
              obtain ⟨hσ106, hfσ106, pσ106⟩ := pσ106
              have hFσ106 := zc_Fc hfσ106 rfl hFσ94
              refine zr_iload_n (pc := 109) hV dX4_readLook_109 rfl rfl ?_
              refine zr_iconst (pc := 110) hV 1 dX4_readLook_110 rfl ?_
              refine zr_ishr (pc := 111) hV dX4_readLook_111 ?_
              have t12 : zq_shr x2_18 1 = x2_18 / 2 := zq_shr_c (x := x2_18) 1 2 (by decide) (by decide) (by omega)
              refine zr_istore_n (pc := 112) hV [some (ZR 132), some (ZR o4), some (ZI (zq_shr x2_18 1)), some (ZI r26), none] dX4_readLook_112 rfl (by decide) rfl rfl ?_
              refine zr_goto (pc := 113) hV 18 dX4_readLook_113 (by decide) ?_
              refine zr_sub (pc := 18) hV [some (ZR 132), some (ZR o4), some (ZI (zq_shr x2_18 1)), none, none] (⟨rfl, rfl, rfl, trivial⟩) ?_
              exact ih18 (zq_shr x2_18 1) σ106 (by omega) hσ106 hFσ106 (by omega)
            · show V 88 [some (ZR 132), some (ZR o4), some (ZI x2_18), some (ZI r26), none] [ZI (σ74 o4 2), ZR o4] 284 σ74
              refine zr_iload_n (pc := 88) hV dX4_readLook_88 rfl rfl ?_
              refine zr_goto (pc := 89) hV 93 dX4_readLook_89 (by decide) ?_
              show V 93 [some (ZR 132), some (ZR o4), some (ZI x2_18), some (ZI r26), none] [ZI x2_18, ZI (σ74 o4 2), ZR o4] 284 σ74
              refine zr_ior (pc := 93) hV dX4_readLook_93 ?_
              have t13 := zq_or_b (x := σ74 o4 2) (y := x2_18) 12 4096 (by decide) (by decide) (by omega) (by omega)
              refine zr_putI (pc := 94) hV 2 dX4_readLook_94 fX4_89 rfl rfl rfl (zc_k4 ko4) (zc_pos ko4 rfl) (fun σ94 eσ94 => ?_)
              have hσ94 : zc_T σ94 := zc_u4_2 eσ94 hσ74 ko4 (by omega)
              have hFσ94 := zc_Fw eσ94 ko4 rfl hFσ74
              refine zr_goto (pc := 97) hV 102 dX4_readLook_97 (by decide) ?_
              show V 102 [some (ZR 132), some (ZR o4), some (ZI x2_18), some (ZI r26), none] [] 284 σ94
              refine zr_aload_n (pc := 102) hV dX4_readLook_102 rfl rfl ?_
              refine zr_getR (pc := 103) hV 0 1 dX4_readLook_103 fX4_15 rfl rfl (zc_k132 zc_s132) (zc_pos zc_s132 rfl) (zc_g132_0 hσ94 zc_s132) (by decide) ?_
              refine zr_callVv (pc := 106) hV [] (st := []) (c_X8_pass (σ := σ94) hσ94) dX4_readLook_106 mX4_92 (zc_k1 zc_s1) (zc_pos zc_s1 rfl) (by decide) (Nat.le_of_ble_eq_true rfl) (Nat.le_refl _) (fun σ106 pσ106 => ?_)
              obtain ⟨hσ106, hfσ106, pσ106⟩ := pσ106
              have hFσ106 := zc_Fc hfσ106 rfl hFσ94
              refine zr_iload_n (pc := 109) hV dX4_readLook_109 rfl rfl ?_
              refine zr_iconst (pc := 110) hV 1 dX4_readLook_110 rfl ?_
              refine zr_ishr (pc := 111) hV dX4_readLook_111 ?_
              have t14 : zq_shr x2_18 1 = x2_18 / 2 := zq_shr_c (x := x2_18) 1 2 (by decide) (by decide) (by omega)
              refine zr_istore_n (pc := 112) hV [some (ZR 132), some (ZR o4), some (ZI (zq_shr x2_18 1)), some (ZI r26), none] dX4_readLook_112 rfl (by decide) rfl rfl ?_
              refine zr_goto (pc := 113) hV 18 dX4_readLook_113 (by decide) ?_
              refine zr_sub (pc := 18) hV [some (ZR 132), some (ZR o4), some (ZI (zq_shr x2_18 1)), none, none] (⟨rfl, rfl, rfl, trivial⟩) ?_
              exact ih18 (zq_shr x2_18 1) σ106 (by omega) hσ106 hFσ106 (by omega)
          refine zr_icmp_eq (pc := 58) hV 67 dX4_readLook_58 (by decide) (by omega) ⟨by decide, by decide⟩ (fun c15 => ?_) (fun c15 => ?_)
          · refine zr_sub (pc := 67) hV [some (ZR 132), some (ZR o4), some (ZI x2_18), some (ZI r26), none] (⟨rfl, rfl, rfl, rfl, trivial⟩) ?_
            exact J67
          · show V 61 [some (ZR 132), some (ZR o4), some (ZI x2_18), some (ZI r26), some (ZI r31)] [] 284 σ26
            refine zr_iload_n (pc := 61) hV dX4_readLook_61 rfl rfl ?_
            refine zr_bipush (pc := 62) hV 49 dX4_readLook_62 (by decide) ?_
            refine zr_icmp_ne (pc := 64) hV 100 dX4_readLook_64 (by decide) (by omega) ⟨by decide, by decide⟩ (fun c16 => ?_) (fun c16 => ?_)
            · show V 100 [some (ZR 132), some (ZR o4), some (ZI x2_18), some (ZI r26), some (ZI r31)] [] 284 σ26
              refine zr_iconst (pc := 100) hV 0 dX4_readLook_100 rfl ?_
              exact zr_zret (pc := 101) hV dX4_readLook_101 rfl rfl (by omega) ⟨_, rfl, ⟨by decide, by decide⟩, hσ26, hFσ26, (by omega)⟩
            · refine zr_sub (pc := 67) hV [some (ZR 132), some (ZR o4), some (ZI x2_18), some (ZI r26), none] (⟨rfl, rfl, rfl, rfl, trivial⟩) ?_
              exact J67
        · show V 41 [some (ZR 132), some (ZR o4), some (ZI x2_18), some (ZI r26), some (ZI r31)] [] 284 σ26
          refine zr_aload_n (pc := 41) hV dX4_readLook_41 rfl rfl ?_
          refine zr_getR (pc := 42) hV 3 (o4 + 1) dX4_readLook_42 fX4_83 rfl rfl (zc_k4 ko4) (zc_pos ko4 rfl) (zc_g4_3 hσ26 ko4) (zc_pos (zc_p4_1 ko4) rfl).1 ?_
          refine zr_iload (pc := 45) hV dX4_readLook_45 rfl ?_
          refine zr_dup2 (pc := 47) hV dX4_readLook_47 (fun _ => rfl) (fun _ => rfl) ?_
          refine zr_iald (pc := 48) hV dX4_readLook_48 (zc_k5 (zc_p4_1 ko4)) (zc_pos (zc_p4_1 ko4) rfl) rfl (by omega) ?_
          have t17 := zc_ga5 hσ26 (zc_p4_1 ko4) r31
          have t18 : σ26 (o4 + 1) r31 = σ_18 (o4 + 1) r31 := hfσ26 _ _ (zc_out_ar (zc_p4_1 ko4) rfl)
          refine zr_iload_n (pc := 49) hV dX4_readLook_49 rfl rfl ?_
          refine zr_ior (pc := 50) hV dX4_readLook_50 ?_
          have t19 := zq_or_in (σ26 (o4 + 1) r31) x2_18
          refine zr_iast (pc := 51) hV dX4_readLook_51 (zc_k5 (zc_p4_1 ko4)) (zc_pos (zc_p4_1 ko4) rfl) rfl (by omega) (fun σ51 eσ51 => ?_)
          have hσ51 : zc_T σ51 := zc_ua5 eσ51 hσ26 (zc_p4_1 ko4) (by omega)
          have hFσ51 := zc_Fa eσ51 (zc_p4_1 ko4) rfl hFσ26
          refine zr_goto (pc := 52) hV 102 dX4_readLook_52 (by decide) ?_
          show V 102 [some (ZR 132), some (ZR o4), some (ZI x2_18), some (ZI r26), some (ZI r31)] [] 284 σ51
          refine zr_aload_n (pc := 102) hV dX4_readLook_102 rfl rfl ?_
          refine zr_getR (pc := 103) hV 0 1 dX4_readLook_103 fX4_15 rfl rfl (zc_k132 zc_s132) (zc_pos zc_s132 rfl) (zc_g132_0 hσ51 zc_s132) (by decide) ?_
          refine zr_callVv (pc := 106) hV [] (st := []) (c_X8_pass (σ := σ51) hσ51) dX4_readLook_106 mX4_92 (zc_k1 zc_s1) (zc_pos zc_s1 rfl) (by decide) (Nat.le_of_ble_eq_true rfl) (Nat.le_refl _) (fun σ106 pσ106 => ?_)
          obtain ⟨hσ106, hfσ106, pσ106⟩ := pσ106
          have hFσ106 := zc_Fc hfσ106 rfl hFσ51
          refine zr_iload_n (pc := 109) hV dX4_readLook_109 rfl rfl ?_
          refine zr_iconst (pc := 110) hV 1 dX4_readLook_110 rfl ?_
          refine zr_ishr (pc := 111) hV dX4_readLook_111 ?_
          have t20 : zq_shr x2_18 1 = x2_18 / 2 := zq_shr_c (x := x2_18) 1 2 (by decide) (by decide) (by omega)
          refine zr_istore_n (pc := 112) hV [some (ZR 132), some (ZR o4), some (ZI (zq_shr x2_18 1)), some (ZI r26), some (ZI r31)] dX4_readLook_112 rfl (by decide) rfl rfl ?_
          refine zr_goto (pc := 113) hV 18 dX4_readLook_113 (by decide) ?_
          refine zr_sub (pc := 18) hV [some (ZR 132), some (ZR o4), some (ZI (zq_shr x2_18 1)), none, none] (⟨rfl, rfl, rfl, trivial⟩) ?_
          exact ih18 (zq_shr x2_18 1) σ106 (by omega) hσ106 hFσ106 (by omega)
  exact L18 ((zq_shr r12 1) + 1 : Int).toNat (zq_shr r12 1) σ (by omega) hσ hFσ (by omega)
set_option maxHeartbeats 800000 in
theorem c_X4_nextStore {σ : zq_S} (hσ : zc_T σ)   : zq_C zc_w yX4_nextStore cX4_nextStore 2 (some .int) 2 43 284 284 [ZR 132] σ (zq_pi (fun r τ => zc_T τ ∧ zc_Fr [(1, 2)] σ τ ∧ (((-1) ≤ r ∧ r ≤ 5)))) := by
  refine zq_C_of (by decide) (Nat.le_refl _) (Nat.le_of_ble_eq_true rfl) [some (ZR 132), none] rfl (fun V hV => ?_)
  have hFσ := zc_Fr_rf [(1, 2)] σ
  show V 0 [some (ZR 132), none] [] 284 σ
  refine zr_aload_n (pc := 0) hV dX4_nextStore_0 rfl rfl ?_
  refine zr_getR (pc := 1) hV 0 1 dX4_nextStore_1 fX4_15 rfl rfl (zc_k132 zc_s132) (zc_pos zc_s132 rfl) (zc_g132_0 hσ zc_s132) (by decide) ?_
  refine zr_callVi (pc := 4) hV [] (st := []) (c_X8_next (σ := σ) hσ) dX4_nextStore_4 mX4_45 (zc_k1 zc_s1) (zc_pos zc_s1 rfl) (by decide) (Nat.le_of_ble_eq_true rfl) (Nat.le_refl _) (fun r4 σ4 hr4 pσ4 => ?_)
  obtain ⟨hσ4, hfσ4, pσ4⟩ := pσ4
  have hFσ4 := zc_Fc hfσ4 rfl hFσ
  refine zr_istore_n (pc := 7) hV [some (ZR 132), some (ZI r4)] dX4_nextStore_7 rfl (by decide) rfl rfl ?_
  refine zr_iload_n (pc := 8) hV dX4_nextStore_8 rfl rfl ?_
  refine zr_bipush (pc := 9) hV 122 dX4_nextStore_9 (by decide) ?_
  refine zr_icmp_ne (pc := 11) hV 18 dX4_nextStore_11 (by decide) (by omega) ⟨by decide, by decide⟩ (fun c1 => ?_) (fun c1 => ?_)
  · show V 18 [some (ZR 132), some (ZI r4)] [] 284 σ4
    refine zr_iload_n (pc := 18) hV dX4_nextStore_18 rfl rfl ?_
    refine zr_bipush (pc := 19) hV 112 dX4_nextStore_19 (by decide) ?_
    refine zr_icmp_ne (pc := 21) hV 28 dX4_nextStore_21 (by decide) (by omega) ⟨by decide, by decide⟩ (fun c2 => ?_) (fun c2 => ?_)
    · show V 28 [some (ZR 132), some (ZI r4)] [] 284 σ4
      refine zr_aload_n (pc := 28) hV dX4_nextStore_28 rfl rfl ?_
      refine zr_iload_n (pc := 29) hV dX4_nextStore_29 rfl rfl ?_
      refine zr_callVp (pc := 30) hV [ZI r4] (st := []) (c_X4_fieldInLook (σ := σ4) hσ4 r4 (by omega)) dX4_nextStore_30 mX4_140 (zc_k132 zc_s132) (zc_pos zc_s132 rfl) (by decide) (Nat.le_of_ble_eq_true rfl) (Nat.le_refl _) (fun r30 hr30 pr30 => ?_)
      show V 33 [some (ZR 132), some (ZI r4)] [ZI r30] 284 σ4
      exact zr_iret (pc := 33) hV dX4_nextStore_33 rfl rfl ⟨_, rfl, (by omega), hσ4, hFσ4, (by omega)⟩
    · show V 24 [some (ZR 132), some (ZI r4)] [] 284 σ4
      refine zr_iconst (pc := 24) hV 5 dX4_nextStore_24 rfl ?_
      refine zr_goto (pc := 25) hV 33 dX4_nextStore_25 (by decide) ?_
      show V 33 [some (ZR 132), some (ZI r4)] [ZI 5] 284 σ4
      exact zr_iret (pc := 33) hV dX4_nextStore_33 rfl rfl ⟨_, rfl, ⟨by decide, by decide⟩, hσ4, hFσ4, (by omega)⟩
  · show V 14 [some (ZR 132), some (ZI r4)] [] 284 σ4
    refine zr_iconst (pc := 14) hV 4 dX4_nextStore_14 rfl ?_
    refine zr_goto (pc := 15) hV 33 dX4_nextStore_15 (by decide) ?_
    show V 33 [some (ZR 132), some (ZI r4)] [ZI 4] 284 σ4
    exact zr_iret (pc := 33) hV dX4_nextStore_33 rfl rfl ⟨_, rfl, ⟨by decide, by decide⟩, hσ4, hFσ4, (by omega)⟩
set_option maxHeartbeats 800000 in
theorem c_X4_readGuard {σ : zq_S} (hσ : zc_T σ)   : zq_C zc_w yX4_readGuard cX4_readGuard 3 (some .boolean) 3 64 284 284 [ZR 132] σ (zq_pi (fun r τ => zc_T τ ∧ zc_Fr [(1, 2), (4, 4), (4, 5), (4, 12)] σ τ ∧ ((0 ≤ r ∧ r ≤ 1)))) := by
  refine zq_C_of (by decide) (Nat.le_refl _) (Nat.le_of_ble_eq_true rfl) [some (ZR 132), none, none] rfl (fun V hV => ?_)
  have hFσ := zc_Fr_rf [(1, 2), (4, 4), (4, 5), (4, 12)] σ
  show V 0 [some (ZR 132), none, none] [] 284 σ
  refine zr_aload_n (pc := 0) hV dX4_readGuard_0 rfl rfl ?_
  refine zr_getR (pc := 1) hV 0 1 dX4_readGuard_1 fX4_15 rfl rfl (zc_k132 zc_s132) (zc_pos zc_s132 rfl) (zc_g132_0 hσ zc_s132) (by decide) ?_
  refine zr_bipush (pc := 4) hV 63 dX4_readGuard_4 (by decide) ?_
  refine zr_callVi (pc := 6) hV [ZI 63] (st := []) (c_X8_takes (σ := σ) hσ 63 (by omega)) dX4_readGuard_6 mX4_27 (zc_k1 zc_s1) (zc_pos zc_s1 rfl) (by decide) (Nat.le_of_ble_eq_true rfl) (Nat.le_refl _) (fun r6 σ6 hr6 pσ6 => ?_)
  obtain ⟨hσ6, hfσ6, pσ6⟩ := pσ6
  have hFσ6 := zc_Fc hfσ6 rfl hFσ
  refine zr_if_ne (pc := 9) hV 14 dX4_readGuard_9 (by decide) (by omega) (fun c1 => ?_) (fun c1 => ?_)
  · show V 14 [some (ZR 132), none, none] [] 284 σ6
    refine zr_aload_n (pc := 14) hV dX4_readGuard_14 rfl rfl ?_
    refine zr_getR (pc := 15) hV 0 1 dX4_readGuard_15 fX4_15 rfl rfl (zc_k132 zc_s132) (zc_pos zc_s132 rfl) (zc_g132_0 hσ6 zc_s132) (by decide) ?_
    refine zr_bipush (pc := 18) hV 33 dX4_readGuard_18 (by decide) ?_
    refine zr_callVi (pc := 20) hV [ZI 33] (st := []) (c_X8_takes (σ := σ6) hσ6 33 (by omega)) dX4_readGuard_20 mX4_27 (zc_k1 zc_s1) (zc_pos zc_s1 rfl) (by decide) (Nat.le_of_ble_eq_true rfl) (Nat.le_refl _) (fun r20 σ20 hr20 pσ20 => ?_)
    obtain ⟨hσ20, hfσ20, pσ20⟩ := pσ20
    have hFσ20 := zc_Fc hfσ20 rfl hFσ6
    have J31 : ∀ (v0_31 : Int), (1 ≤ v0_31 ∧ v0_31 ≤ 2) → V 31 [some (ZR 132), none, none] [ZI v0_31] 284 σ20 := by
      intro v0_31 hv0_31
      show V 31 [some (ZR 132), none, none] [ZI v0_31] 284 σ20
      refine zr_istore_n (pc := 31) hV [some (ZR 132), some (ZI v0_31), none] dX4_readGuard_31 rfl (by decide) rfl rfl ?_
      refine zr_aload_n (pc := 32) hV dX4_readGuard_32 rfl rfl ?_
      refine zr_callVi (pc := 33) hV [] (st := []) (c_X4_nextStore (σ := σ20) hσ20) dX4_readGuard_33 mX4_111 (zc_k132 zc_s132) (zc_pos zc_s132 rfl) (by decide) (Nat.le_of_ble_eq_true rfl) (Nat.le_refl _) (fun r33 σ33 hr33 pσ33 => ?_)
      obtain ⟨hσ33, hfσ33, pσ33⟩ := pσ33
      have hFσ33 := zc_Fc hfσ33 rfl hFσ20
      refine zr_istore_n (pc := 36) hV [some (ZR 132), some (ZI v0_31), some (ZI r33)] dX4_readGuard_36 rfl (by decide) rfl rfl ?_
      refine zr_iload_n (pc := 37) hV dX4_readGuard_37 rfl rfl ?_
      refine zr_iconst (pc := 38) hV (-1) dX4_readGuard_38 rfl ?_
      refine zr_icmp_eq (pc := 39) hV 52 dX4_readGuard_39 (by decide) (by omega) ⟨by decide, by decide⟩ (fun c2 => ?_) (fun c2 => ?_)
      · show V 52 [some (ZR 132), some (ZI v0_31), some (ZI r33)] [] 284 σ33
        refine zr_iconst (pc := 52) hV 0 dX4_readGuard_52 rfl ?_
        exact zr_zret (pc := 53) hV dX4_readGuard_53 rfl rfl (by omega) ⟨_, rfl, ⟨by decide, by decide⟩, hσ33, hFσ33, (by omega)⟩
      · show V 42 [some (ZR 132), some (ZI v0_31), some (ZI r33)] [] 284 σ33
        refine zr_iload_n (pc := 42) hV dX4_readGuard_42 rfl rfl ?_
        refine zr_iconst (pc := 43) hV 3 dX4_readGuard_43 rfl ?_
        refine zr_icmp_eq (pc := 44) hV 52 dX4_readGuard_44 (by decide) (by omega) ⟨by decide, by decide⟩ (fun c3 => ?_) (fun c3 => ?_)
        · show V 52 [some (ZR 132), some (ZI v0_31), some (ZI r33)] [] 284 σ33
          refine zr_iconst (pc := 52) hV 0 dX4_readGuard_52 rfl ?_
          exact zr_zret (pc := 53) hV dX4_readGuard_53 rfl rfl (by omega) ⟨_, rfl, ⟨by decide, by decide⟩, hσ33, hFσ33, (by omega)⟩
        · show V 47 [some (ZR 132), some (ZI v0_31), some (ZI r33)] [] 284 σ33
          refine zr_iload_n (pc := 47) hV dX4_readGuard_47 rfl rfl ?_
          refine zr_iconst (pc := 48) hV 5 dX4_readGuard_48 rfl ?_
          refine zr_icmp_ne (pc := 49) hV 54 dX4_readGuard_49 (by decide) (by omega) ⟨by decide, by decide⟩ (fun c4 => ?_) (fun c4 => ?_)
          · show V 54 [some (ZR 132), some (ZI v0_31), some (ZI r33)] [] 284 σ33
            refine zr_aload_n (pc := 54) hV dX4_readGuard_54 rfl rfl ?_
            refine zr_getR (pc := 55) hV 0 1 dX4_readGuard_55 fX4_15 rfl rfl (zc_k132 zc_s132) (zc_pos zc_s132 rfl) (zc_g132_0 hσ33 zc_s132) (by decide) ?_
            refine zr_callVv (pc := 58) hV [] (st := []) (c_X8_pass (σ := σ33) hσ33) dX4_readGuard_58 mX4_92 (zc_k1 zc_s1) (zc_pos zc_s1 rfl) (by decide) (Nat.le_of_ble_eq_true rfl) (Nat.le_refl _) (fun σ58 pσ58 => ?_)
            obtain ⟨hσ58, hfσ58, pσ58⟩ := pσ58
            have hFσ58 := zc_Fc hfσ58 rfl hFσ33
            refine zr_aload_n (pc := 61) hV dX4_readGuard_61 rfl rfl ?_
            refine zr_getR (pc := 62) hV 1 3 dX4_readGuard_62 fX4_19 rfl rfl (zc_k132 zc_s132) (zc_pos zc_s132 rfl) (zc_g132_1 hσ58 zc_s132) (by decide) ?_
            have t5 : σ58 3 5 = σ33 3 5 := hfσ58 _ _ (zc_out_at zc_s3 rfl)
            have t6 : σ33 3 5 = σ20 3 5 := hfσ33 _ _ (zc_out_at zc_s3 rfl)
            have t7 : σ20 3 5 = σ6 3 5 := hfσ20 _ _ (zc_out_at zc_s3 rfl)
            have t8 : σ6 3 5 = σ 3 5 := hfσ6 _ _ (zc_out_at zc_s3 rfl)
            obtain ⟨o65, eo65⟩ : ∃ o, σ 3 5 = o := ⟨_, rfl⟩
            have ko65 : zc_kd o65 = 4 := eo65 ▸ zc_g3_5 hσ zc_s3
            have po65 := zc_pos ko65 rfl
            refine zr_getR (pc := 65) hV 5 o65 dX4_readGuard_65 fX4_49 rfl rfl (zc_k3 zc_s3) (zc_pos zc_s3 rfl) (by omega) (zc_pos ko65 rfl).1 ?_
            refine zr_iload_n (pc := 68) hV dX4_readGuard_68 rfl rfl ?_
            refine zr_iload_n (pc := 69) hV dX4_readGuard_69 rfl rfl ?_
            refine zr_callVv (pc := 70) hV [ZI v0_31, ZI r33] (st := []) (c_X3_addGuard (σ := σ58) hσ58 o65 ko65 v0_31 r33 (by omega) (by omega)) dX4_readGuard_70 mX4_114 (zc_k4 ko65) (zc_pos ko65 rfl) (by decide) (Nat.le_of_ble_eq_true rfl) (Nat.le_refl _) (fun σ70 pσ70 => ?_)
            obtain ⟨hσ70, hfσ70, pσ70⟩ := pσ70
            have hFσ70 := zc_Fc hfσ70 rfl hFσ58
            refine zr_aload_n (pc := 73) hV dX4_readGuard_73 rfl rfl ?_
            refine zr_getR (pc := 74) hV 0 1 dX4_readGuard_74 fX4_15 rfl rfl (zc_k132 zc_s132) (zc_pos zc_s132 rfl) (zc_g132_0 hσ70 zc_s132) (by decide) ?_
            refine zr_bipush (pc := 77) hV 44 dX4_readGuard_77 (by decide) ?_
            refine zr_callVi (pc := 79) hV [ZI 44] (st := []) (c_X8_takes (σ := σ70) hσ70 44 (by omega)) dX4_readGuard_79 mX4_27 (zc_k1 zc_s1) (zc_pos zc_s1 rfl) (by decide) (Nat.le_of_ble_eq_true rfl) (Nat.le_refl _) (fun r79 σ79 hr79 pσ79 => ?_)
            obtain ⟨hσ79, hfσ79, pσ79⟩ := pσ79
            have hFσ79 := zc_Fc hfσ79 rfl hFσ70
            exact zr_zret (pc := 82) hV dX4_readGuard_82 rfl rfl (by omega) ⟨_, rfl, (by omega), hσ79, hFσ79, (by omega)⟩
          · show V 52 [some (ZR 132), some (ZI v0_31), some (ZI r33)] [] 284 σ33
            refine zr_iconst (pc := 52) hV 0 dX4_readGuard_52 rfl ?_
            exact zr_zret (pc := 53) hV dX4_readGuard_53 rfl rfl (by omega) ⟨_, rfl, ⟨by decide, by decide⟩, hσ33, hFσ33, (by omega)⟩
    refine zr_if_eq (pc := 23) hV 30 dX4_readGuard_23 (by decide) (by omega) (fun c9 => ?_) (fun c9 => ?_)
    · show V 30 [some (ZR 132), none, none] [] 284 σ20
      refine zr_iconst (pc := 30) hV 1 dX4_readGuard_30 rfl ?_
      exact J31 1 (by omega)
    · show V 26 [some (ZR 132), none, none] [] 284 σ20
      refine zr_iconst (pc := 26) hV 2 dX4_readGuard_26 rfl ?_
      refine zr_goto (pc := 27) hV 31 dX4_readGuard_27 (by decide) ?_
      exact J31 2 (by omega)
  · show V 12 [some (ZR 132), none, none] [] 284 σ6
    refine zr_iconst (pc := 12) hV 1 dX4_readGuard_12 rfl ?_
    exact zr_zret (pc := 13) hV dX4_readGuard_13 rfl rfl (by omega) ⟨_, rfl, ⟨by decide, by decide⟩, hσ6, hFσ6, (by omega)⟩
set_option maxHeartbeats 800000 in
theorem c_X4_readMemory {σ : zq_S} (hσ : zc_T σ)   : zq_C zc_w yX4_readMemory cX4_readMemory 2 (some .int) 2 43 284 284 [ZR 132] σ (zq_pi (fun r τ => zc_T τ ∧ zc_Fr [(1, 2)] σ τ ∧ (((-1) ≤ r ∧ r ≤ 9)))) := by
  refine zq_C_of (by decide) (Nat.le_refl _) (Nat.le_of_ble_eq_true rfl) [some (ZR 132), none] rfl (fun V hV => ?_)
  have hFσ := zc_Fr_rf [(1, 2)] σ
  show V 0 [some (ZR 132), none] [] 284 σ
  refine zr_aload_n (pc := 0) hV dX4_readMemory_0 rfl rfl ?_
  refine zr_aload_n (pc := 1) hV dX4_readMemory_1 rfl rfl ?_
  refine zr_getR (pc := 2) hV 0 1 dX4_readMemory_2 fX4_15 rfl rfl (zc_k132 zc_s132) (zc_pos zc_s132 rfl) (zc_g132_0 hσ zc_s132) (by decide) ?_
  refine zr_callVi (pc := 5) hV [] (st := [ZR 132]) (c_X8_next (σ := σ) hσ) dX4_readMemory_5 mX4_45 (zc_k1 zc_s1) (zc_pos zc_s1 rfl) (by decide) (Nat.le_of_ble_eq_true rfl) (Nat.le_refl _) (fun r5 σ5 hr5 pσ5 => ?_)
  obtain ⟨hσ5, hfσ5, pσ5⟩ := pσ5
  have hFσ5 := zc_Fc hfσ5 rfl hFσ
  refine zr_callVp (pc := 8) hV [ZI r5] (st := []) (c_X4_fieldInLook (σ := σ5) hσ5 r5 (by omega)) dX4_readMemory_8 mX4_140 (zc_k132 zc_s132) (zc_pos zc_s132 rfl) (by decide) (Nat.le_of_ble_eq_true rfl) (Nat.le_refl _) (fun r8 hr8 pr8 => ?_)
  refine zr_istore_n (pc := 11) hV [some (ZR 132), some (ZI r8)] dX4_readMemory_11 rfl (by decide) rfl rfl ?_
  refine zr_iload_n (pc := 12) hV dX4_readMemory_12 rfl rfl ?_
  refine zr_iconst (pc := 13) hV (-1) dX4_readMemory_13 rfl ?_
  refine zr_icmp_ne (pc := 14) hV 19 dX4_readMemory_14 (by decide) (by omega) ⟨by decide, by decide⟩ (fun c1 => ?_) (fun c1 => ?_)
  · show V 19 [some (ZR 132), some (ZI r8)] [] 284 σ5
    refine zr_aload_n (pc := 19) hV dX4_readMemory_19 rfl rfl ?_
    refine zr_getR (pc := 20) hV 0 1 dX4_readMemory_20 fX4_15 rfl rfl (zc_k132 zc_s132) (zc_pos zc_s132 rfl) (zc_g132_0 hσ5 zc_s132) (by decide) ?_
    refine zr_callVv (pc := 23) hV [] (st := []) (c_X8_pass (σ := σ5) hσ5) dX4_readMemory_23 mX4_92 (zc_k1 zc_s1) (zc_pos zc_s1 rfl) (by decide) (Nat.le_of_ble_eq_true rfl) (Nat.le_refl _) (fun σ23 pσ23 => ?_)
    obtain ⟨hσ23, hfσ23, pσ23⟩ := pσ23
    have hFσ23 := zc_Fc hfσ23 rfl hFσ5
    refine zr_aload_n (pc := 26) hV dX4_readMemory_26 rfl rfl ?_
    refine zr_getR (pc := 27) hV 0 1 dX4_readMemory_27 fX4_15 rfl rfl (zc_k132 zc_s132) (zc_pos zc_s132 rfl) (zc_g132_0 hσ23 zc_s132) (by decide) ?_
    refine zr_bipush (pc := 30) hV 93 dX4_readMemory_30 (by decide) ?_
    refine zr_callVi (pc := 32) hV [ZI 93] (st := []) (c_X8_takes (σ := σ23) hσ23 93 (by omega)) dX4_readMemory_32 mX4_27 (zc_k1 zc_s1) (zc_pos zc_s1 rfl) (by decide) (Nat.le_of_ble_eq_true rfl) (Nat.le_refl _) (fun r32 σ32 hr32 pσ32 => ?_)
    obtain ⟨hσ32, hfσ32, pσ32⟩ := pσ32
    have hFσ32 := zc_Fc hfσ32 rfl hFσ23
    refine zr_if_eq (pc := 35) hV 45 dX4_readMemory_35 (by decide) (by omega) (fun c2 => ?_) (fun c2 => ?_)
    · show V 45 [some (ZR 132), some (ZI r8)] [] 284 σ32
      refine zr_iconst (pc := 45) hV (-1) dX4_readMemory_45 rfl ?_
      show V 46 [some (ZR 132), some (ZI r8)] [ZI (-1)] 284 σ32
      exact zr_iret (pc := 46) hV dX4_readMemory_46 rfl rfl ⟨_, rfl, ⟨by decide, by decide⟩, hσ32, hFσ32, (by omega)⟩
    · show V 38 [some (ZR 132), some (ZI r8)] [] 284 σ32
      refine zr_bipush (pc := 38) hV 6 dX4_readMemory_38 (by decide) ?_
      refine zr_iload_n (pc := 40) hV dX4_readMemory_40 rfl rfl ?_
      refine zr_iadd (pc := 41) hV dX4_readMemory_41 ?_
      refine zr_goto (pc := 42) hV 46 dX4_readMemory_42 (by decide) ?_
      show V 46 [some (ZR 132), some (ZI r8)] [ZI (6 + r8)] 284 σ32
      exact zr_iret (pc := 46) hV dX4_readMemory_46 rfl rfl ⟨_, rfl, (by omega), hσ32, hFσ32, (by omega)⟩
  · show V 17 [some (ZR 132), some (ZI r8)] [] 284 σ5
    refine zr_iconst (pc := 17) hV (-1) dX4_readMemory_17 rfl ?_
    exact zr_iret (pc := 18) hV dX4_readMemory_18 rfl rfl ⟨_, rfl, ⟨by decide, by decide⟩, hσ5, hFσ5, (by omega)⟩
set_option maxHeartbeats 800000 in
theorem c_X4_readTarget {σ : zq_S} (hσ : zc_T σ)   : zq_C zc_w yX4_readTarget cX4_readTarget 2 (some .int) 3 64 284 284 [ZR 132] σ (zq_pi (fun r τ => zc_T τ ∧ zc_Fr [(1, 2)] σ τ ∧ (((-1) ≤ r ∧ r ≤ 9)))) := by
  refine zq_C_of (by decide) (Nat.le_refl _) (Nat.le_of_ble_eq_true rfl) [some (ZR 132), none] rfl (fun V hV => ?_)
  have hFσ := zc_Fr_rf [(1, 2)] σ
  show V 0 [some (ZR 132), none] [] 284 σ
  refine zr_aload_n (pc := 0) hV dX4_readTarget_0 rfl rfl ?_
  refine zr_getR (pc := 1) hV 0 1 dX4_readTarget_1 fX4_15 rfl rfl (zc_k132 zc_s132) (zc_pos zc_s132 rfl) (zc_g132_0 hσ zc_s132) (by decide) ?_
  refine zr_bipush (pc := 4) hV 91 dX4_readTarget_4 (by decide) ?_
  refine zr_callVi (pc := 6) hV [ZI 91] (st := []) (c_X8_takes (σ := σ) hσ 91 (by omega)) dX4_readTarget_6 mX4_27 (zc_k1 zc_s1) (zc_pos zc_s1 rfl) (by decide) (Nat.le_of_ble_eq_true rfl) (Nat.le_refl _) (fun r6 σ6 hr6 pσ6 => ?_)
  obtain ⟨hσ6, hfσ6, pσ6⟩ := pσ6
  have hFσ6 := zc_Fc hfσ6 rfl hFσ
  refine zr_if_eq (pc := 9) hV 17 dX4_readTarget_9 (by decide) (by omega) (fun c1 => ?_) (fun c1 => ?_)
  · show V 17 [some (ZR 132), none] [] 284 σ6
    refine zr_aload_n (pc := 17) hV dX4_readTarget_17 rfl rfl ?_
    refine zr_callVi (pc := 18) hV [] (st := []) (c_X4_nextStore (σ := σ6) hσ6) dX4_readTarget_18 mX4_111 (zc_k132 zc_s132) (zc_pos zc_s132 rfl) (by decide) (Nat.le_of_ble_eq_true rfl) (Nat.le_refl _) (fun r18 σ18 hr18 pσ18 => ?_)
    obtain ⟨hσ18, hfσ18, pσ18⟩ := pσ18
    have hFσ18 := zc_Fc hfσ18 rfl hFσ6
    refine zr_istore_n (pc := 21) hV [some (ZR 132), some (ZI r18)] dX4_readTarget_21 rfl (by decide) rfl rfl ?_
    refine zr_iload_n (pc := 22) hV dX4_readTarget_22 rfl rfl ?_
    refine zr_iconst (pc := 23) hV (-1) dX4_readTarget_23 rfl ?_
    refine zr_icmp_eq (pc := 24) hV 32 dX4_readTarget_24 (by decide) (by omega) ⟨by decide, by decide⟩ (fun c2 => ?_) (fun c2 => ?_)
    · show V 32 [some (ZR 132), some (ZI r18)] [] 284 σ18
      refine zr_iconst (pc := 32) hV (-1) dX4_readTarget_32 rfl ?_
      exact zr_iret (pc := 33) hV dX4_readTarget_33 rfl rfl ⟨_, rfl, ⟨by decide, by decide⟩, hσ18, hFσ18, (by omega)⟩
    · show V 27 [some (ZR 132), some (ZI r18)] [] 284 σ18
      refine zr_iload_n (pc := 27) hV dX4_readTarget_27 rfl rfl ?_
      refine zr_iconst (pc := 28) hV 3 dX4_readTarget_28 rfl ?_
      refine zr_icmp_ne (pc := 29) hV 34 dX4_readTarget_29 (by decide) (by omega) ⟨by decide, by decide⟩ (fun c3 => ?_) (fun c3 => ?_)
      · show V 34 [some (ZR 132), some (ZI r18)] [] 284 σ18
        refine zr_aload_n (pc := 34) hV dX4_readTarget_34 rfl rfl ?_
        refine zr_getR (pc := 35) hV 0 1 dX4_readTarget_35 fX4_15 rfl rfl (zc_k132 zc_s132) (zc_pos zc_s132 rfl) (zc_g132_0 hσ18 zc_s132) (by decide) ?_
        refine zr_callVv (pc := 38) hV [] (st := []) (c_X8_pass (σ := σ18) hσ18) dX4_readTarget_38 mX4_92 (zc_k1 zc_s1) (zc_pos zc_s1 rfl) (by decide) (Nat.le_of_ble_eq_true rfl) (Nat.le_refl _) (fun σ38 pσ38 => ?_)
        obtain ⟨hσ38, hfσ38, pσ38⟩ := pσ38
        have hFσ38 := zc_Fc hfσ38 rfl hFσ18
        refine zr_iload_n (pc := 41) hV dX4_readTarget_41 rfl rfl ?_
        exact zr_iret (pc := 42) hV dX4_readTarget_42 rfl rfl ⟨_, rfl, (by omega), hσ38, hFσ38, (by omega)⟩
      · show V 32 [some (ZR 132), some (ZI r18)] [] 284 σ18
        refine zr_iconst (pc := 32) hV (-1) dX4_readTarget_32 rfl ?_
        exact zr_iret (pc := 33) hV dX4_readTarget_33 rfl rfl ⟨_, rfl, ⟨by decide, by decide⟩, hσ18, hFσ18, (by omega)⟩
  · show V 12 [some (ZR 132), none] [] 284 σ6
    refine zr_aload_n (pc := 12) hV dX4_readTarget_12 rfl rfl ?_
    refine zr_callVi (pc := 13) hV [] (st := []) (c_X4_readMemory (σ := σ6) hσ6) dX4_readTarget_13 mX4_134 (zc_k132 zc_s132) (zc_pos zc_s132 rfl) (by decide) (Nat.le_of_ble_eq_true rfl) (Nat.le_refl _) (fun r13 σ13 hr13 pσ13 => ?_)
    obtain ⟨hσ13, hfσ13, pσ13⟩ := pσ13
    have hFσ13 := zc_Fc hfσ13 rfl hFσ6
    exact zr_iret (pc := 16) hV dX4_readTarget_16 rfl rfl ⟨_, rfl, (by omega), hσ13, hFσ13, (by omega)⟩
set_option maxHeartbeats 800000 in
theorem c_X4_readOperand {σ : zq_S} (hσ : zc_T σ)   : zq_C zc_w yX4_readOperand cX4_readOperand 3 (some .int) 3 64 284 284 [ZR 132] σ (zq_pi (fun r τ => zc_T τ ∧ zc_Fr [(1, 2), (1, 3)] σ τ ∧ (((-1) ≤ r ∧ r ≤ 271) ∧ zc_op r))) := by
  refine zq_C_of (by decide) (Nat.le_refl _) (Nat.le_of_ble_eq_true rfl) [some (ZR 132), none, none] rfl (fun V hV => ?_)
  have hFσ := zc_Fr_rf [(1, 2), (1, 3)] σ
  show V 0 [some (ZR 132), none, none] [] 284 σ
  refine zr_aload_n (pc := 0) hV dX4_readOperand_0 rfl rfl ?_
  refine zr_getR (pc := 1) hV 0 1 dX4_readOperand_1 fX4_15 rfl rfl (zc_k132 zc_s132) (zc_pos zc_s132 rfl) (zc_g132_0 hσ zc_s132) (by decide) ?_
  refine zr_bipush (pc := 4) hV 91 dX4_readOperand_4 (by decide) ?_
  refine zr_callVi (pc := 6) hV [ZI 91] (st := []) (c_X8_takes (σ := σ) hσ 91 (by omega)) dX4_readOperand_6 mX4_27 (zc_k1 zc_s1) (zc_pos zc_s1 rfl) (by decide) (Nat.le_of_ble_eq_true rfl) (Nat.le_refl _) (fun r6 σ6 hr6 pσ6 => ?_)
  obtain ⟨hσ6, hfσ6, pσ6⟩ := pσ6
  have hFσ6 := zc_Fc hfσ6 rfl hFσ
  refine zr_if_eq (pc := 9) hV 17 dX4_readOperand_9 (by decide) (by omega) (fun c1 => ?_) (fun c1 => ?_)
  · show V 17 [some (ZR 132), none, none] [] 284 σ6
    refine zr_aload_n (pc := 17) hV dX4_readOperand_17 rfl rfl ?_
    refine zr_callVi (pc := 18) hV [] (st := []) (c_X4_nextStore (σ := σ6) hσ6) dX4_readOperand_18 mX4_111 (zc_k132 zc_s132) (zc_pos zc_s132 rfl) (by decide) (Nat.le_of_ble_eq_true rfl) (Nat.le_refl _) (fun r18 σ18 hr18 pσ18 => ?_)
    obtain ⟨hσ18, hfσ18, pσ18⟩ := pσ18
    have hFσ18 := zc_Fc hfσ18 rfl hFσ6
    refine zr_istore_n (pc := 21) hV [some (ZR 132), some (ZI r18), none] dX4_readOperand_21 rfl (by decide) rfl rfl ?_
    refine zr_iload_n (pc := 22) hV dX4_readOperand_22 rfl rfl ?_
    refine zr_iconst (pc := 23) hV (-1) dX4_readOperand_23 rfl ?_
    refine zr_icmp_ne (pc := 24) hV 51 dX4_readOperand_24 (by decide) (by omega) ⟨by decide, by decide⟩ (fun c2 => ?_) (fun c2 => ?_)
    · show V 51 [some (ZR 132), some (ZI r18), none] [] 284 σ18
      refine zr_aload_n (pc := 51) hV dX4_readOperand_51 rfl rfl ?_
      refine zr_getR (pc := 52) hV 0 1 dX4_readOperand_52 fX4_15 rfl rfl (zc_k132 zc_s132) (zc_pos zc_s132 rfl) (zc_g132_0 hσ18 zc_s132) (by decide) ?_
      refine zr_callVv (pc := 55) hV [] (st := []) (c_X8_pass (σ := σ18) hσ18) dX4_readOperand_55 mX4_92 (zc_k1 zc_s1) (zc_pos zc_s1 rfl) (by decide) (Nat.le_of_ble_eq_true rfl) (Nat.le_refl _) (fun σ55 pσ55 => ?_)
      obtain ⟨hσ55, hfσ55, pσ55⟩ := pσ55
      have hFσ55 := zc_Fc hfσ55 rfl hFσ18
      refine zr_iload_n (pc := 58) hV dX4_readOperand_58 rfl rfl ?_
      exact zr_iret (pc := 59) hV dX4_readOperand_59 rfl rfl ⟨_, rfl, (by omega), hσ55, hFσ55, ⟨by omega, (by unfold zc_op; omega)⟩⟩
    · show V 27 [some (ZR 132), some (ZI r18), none] [] 284 σ18
      refine zr_aload_n (pc := 27) hV dX4_readOperand_27 rfl rfl ?_
      refine zr_getR (pc := 28) hV 0 1 dX4_readOperand_28 fX4_15 rfl rfl (zc_k132 zc_s132) (zc_pos zc_s132 rfl) (zc_g132_0 hσ18 zc_s132) (by decide) ?_
      refine zr_sipush (pc := 31) hV 255 dX4_readOperand_31 (by decide) ?_
      refine zr_callVi (pc := 34) hV [ZI 255] (st := []) (c_X8_takeNumber (σ := σ18) hσ18 255 (by omega)) dX4_readOperand_34 mX4_137 (zc_k1 zc_s1) (zc_pos zc_s1 rfl) (by decide) (Nat.le_of_ble_eq_true rfl) (Nat.le_refl _) (fun r34 σ34 hr34 pσ34 => ?_)
      obtain ⟨hσ34, hfσ34, pσ34⟩ := pσ34
      have hFσ34 := zc_Fc hfσ34 rfl hFσ18
      refine zr_istore_n (pc := 37) hV [some (ZR 132), some (ZI r18), some (ZI r34)] dX4_readOperand_37 rfl (by decide) rfl rfl ?_
      refine zr_iload_n (pc := 38) hV dX4_readOperand_38 rfl rfl ?_
      refine zr_if_ge (pc := 39) hV 46 dX4_readOperand_39 (by decide) (by omega) (fun c3 => ?_) (fun c3 => ?_)
      · show V 46 [some (ZR 132), some (ZI r18), some (ZI r34)] [] 284 σ34
        refine zr_bipush (pc := 46) hV 16 dX4_readOperand_46 (by decide) ?_
        refine zr_iload_n (pc := 48) hV dX4_readOperand_48 rfl rfl ?_
        refine zr_iadd (pc := 49) hV dX4_readOperand_49 ?_
        show V 50 [some (ZR 132), some (ZI r18), some (ZI r34)] [ZI (16 + r34)] 284 σ34
        exact zr_iret (pc := 50) hV dX4_readOperand_50 rfl rfl ⟨_, rfl, (by omega), hσ34, hFσ34, ⟨by omega, (by unfold zc_op; omega)⟩⟩
      · show V 42 [some (ZR 132), some (ZI r18), some (ZI r34)] [] 284 σ34
        refine zr_iconst (pc := 42) hV (-1) dX4_readOperand_42 rfl ?_
        refine zr_goto (pc := 43) hV 50 dX4_readOperand_43 (by decide) ?_
        show V 50 [some (ZR 132), some (ZI r18), some (ZI r34)] [ZI (-1)] 284 σ34
        exact zr_iret (pc := 50) hV dX4_readOperand_50 rfl rfl ⟨_, rfl, ⟨by decide, by decide⟩, hσ34, hFσ34, ⟨by omega, (by unfold zc_op; omega)⟩⟩
  · show V 12 [some (ZR 132), none, none] [] 284 σ6
    refine zr_aload_n (pc := 12) hV dX4_readOperand_12 rfl rfl ?_
    refine zr_callVi (pc := 13) hV [] (st := []) (c_X4_readMemory (σ := σ6) hσ6) dX4_readOperand_13 mX4_134 (zc_k132 zc_s132) (zc_pos zc_s132 rfl) (by decide) (Nat.le_of_ble_eq_true rfl) (Nat.le_refl _) (fun r13 σ13 hr13 pσ13 => ?_)
    obtain ⟨hσ13, hfσ13, pσ13⟩ := pσ13
    have hFσ13 := zc_Fc hfσ13 rfl hFσ6
    exact zr_iret (pc := 16) hV dX4_readOperand_16 rfl rfl ⟨_, rfl, (by omega), hσ13, hFσ13, ⟨by omega, (by unfold zc_op; omega)⟩⟩
set_option maxHeartbeats 800000 in
theorem c_X4_readAct {σ : zq_S} (hσ : zc_T σ)   : zq_C zc_w yX4_readAct cX4_readAct 5 (some .boolean) 4 86 284 284 [ZR 132] σ (zq_pi (fun r τ => zc_T τ ∧ zc_Fr [(1, 2), (1, 3), (4, 6), (4, 12), (4, 13), (6, -1), (7, -1), (8, -1), (9, -1)] σ τ ∧ ((0 ≤ r ∧ r ≤ 1)))) := by
  refine zq_C_of (by decide) (Nat.le_refl _) (Nat.le_of_ble_eq_true rfl) [some (ZR 132), none, none, none, none] rfl (fun V hV => ?_)
  have hFσ := zc_Fr_rf [(1, 2), (1, 3), (4, 6), (4, 12), (4, 13), (6, -1), (7, -1), (8, -1), (9, -1)] σ
  show V 0 [some (ZR 132), none, none, none, none] [] 284 σ
  refine zr_aload_n (pc := 0) hV dX4_readAct_0 rfl rfl ?_
  refine zr_callVi (pc := 1) hV [] (st := []) (c_X4_readTarget (σ := σ) hσ) dX4_readAct_1 mX4_121 (zc_k132 zc_s132) (zc_pos zc_s132 rfl) (by decide) (Nat.le_of_ble_eq_true rfl) (Nat.le_refl _) (fun r1 σ1 hr1 pσ1 => ?_)
  obtain ⟨hσ1, hfσ1, pσ1⟩ := pσ1
  have hFσ1 := zc_Fc hfσ1 rfl hFσ
  refine zr_istore_n (pc := 4) hV [some (ZR 132), some (ZI r1), none, none, none] dX4_readAct_4 rfl (by decide) rfl rfl ?_
  refine zr_iload_n (pc := 5) hV dX4_readAct_5 rfl rfl ?_
  refine zr_iconst (pc := 6) hV (-1) dX4_readAct_6 rfl ?_
  refine zr_icmp_eq (pc := 7) hV 22 dX4_readAct_7 (by decide) (by omega) ⟨by decide, by decide⟩ (fun c1 => ?_) (fun c1 => ?_)
  · show V 22 [some (ZR 132), some (ZI r1), none, none, none] [] 284 σ1
    refine zr_iconst (pc := 22) hV 0 dX4_readAct_22 rfl ?_
    exact zr_zret (pc := 23) hV dX4_readAct_23 rfl rfl (by omega) ⟨_, rfl, ⟨by decide, by decide⟩, hσ1, hFσ1, (by omega)⟩
  · show V 10 [some (ZR 132), some (ZI r1), none, none, none] [] 284 σ1
    refine zr_aload_n (pc := 10) hV dX4_readAct_10 rfl rfl ?_
    refine zr_getR (pc := 11) hV 0 1 dX4_readAct_11 fX4_15 rfl rfl (zc_k132 zc_s132) (zc_pos zc_s132 rfl) (zc_g132_0 hσ1 zc_s132) (by decide) ?_
    refine zr_bipush (pc := 14) hV 61 dX4_readAct_14 (by decide) ?_
    refine zr_callVi (pc := 16) hV [ZI 61] (st := []) (c_X8_takes (σ := σ1) hσ1 61 (by omega)) dX4_readAct_16 mX4_27 (zc_k1 zc_s1) (zc_pos zc_s1 rfl) (by decide) (Nat.le_of_ble_eq_true rfl) (Nat.le_refl _) (fun r16 σ16 hr16 pσ16 => ?_)
    obtain ⟨hσ16, hfσ16, pσ16⟩ := pσ16
    have hFσ16 := zc_Fc hfσ16 rfl hFσ1
    refine zr_if_ne (pc := 19) hV 24 dX4_readAct_19 (by decide) (by omega) (fun c2 => ?_) (fun c2 => ?_)
    · show V 24 [some (ZR 132), some (ZI r1), none, none, none] [] 284 σ16
      refine zr_aload_n (pc := 24) hV dX4_readAct_24 rfl rfl ?_
      refine zr_callVi (pc := 25) hV [] (st := []) (c_X4_readOperand (σ := σ16) hσ16) dX4_readAct_25 mX4_124 (zc_k132 zc_s132) (zc_pos zc_s132 rfl) (by decide) (Nat.le_of_ble_eq_true rfl) (Nat.le_refl _) (fun r25 σ25 hr25 pσ25 => ?_)
      obtain ⟨hσ25, hfσ25, pσ25⟩ := pσ25
      have hFσ25 := zc_Fc hfσ25 rfl hFσ16
      refine zr_istore_n (pc := 28) hV [some (ZR 132), some (ZI r1), some (ZI r25), none, none] dX4_readAct_28 rfl (by decide) rfl rfl ?_
      refine zr_iload_n (pc := 29) hV dX4_readAct_29 rfl rfl ?_
      refine zr_iconst (pc := 30) hV (-1) dX4_readAct_30 rfl ?_
      refine zr_icmp_ne (pc := 31) hV 36 dX4_readAct_31 (by decide) (by omega) ⟨by decide, by decide⟩ (fun c3 => ?_) (fun c3 => ?_)
      · show V 36 [some (ZR 132), some (ZI r1), some (ZI r25), none, none] [] 284 σ25
        refine zr_aload_n (pc := 36) hV dX4_readAct_36 rfl rfl ?_
        refine zr_getR (pc := 37) hV 0 1 dX4_readAct_37 fX4_15 rfl rfl (zc_k132 zc_s132) (zc_pos zc_s132 rfl) (zc_g132_0 hσ25 zc_s132) (by decide) ?_
        refine zr_callVi (pc := 40) hV [] (st := []) (c_X8_next (σ := σ25) hσ25) dX4_readAct_40 mX4_45 (zc_k1 zc_s1) (zc_pos zc_s1 rfl) (by decide) (Nat.le_of_ble_eq_true rfl) (Nat.le_refl _) (fun r40 σ40 hr40 pσ40 => ?_)
        obtain ⟨hσ40, hfσ40, pσ40⟩ := pσ40
        have hFσ40 := zc_Fc hfσ40 rfl hFσ25
        refine zr_istore_n (pc := 43) hV [some (ZR 132), some (ZI r1), some (ZI r25), some (ZI r40), none] dX4_readAct_43 rfl (by decide) rfl rfl ?_
        refine zr_iload_n (pc := 44) hV dX4_readAct_44 rfl rfl ?_
        refine zr_callSp (pc := 45) hV [ZI r40] (st := []) (c_X8_isSign (σ := σ40) r40 (by omega)) dX4_readAct_45 mX4_127 (by decide) (Nat.le_of_ble_eq_true rfl) (Nat.le_refl _) (fun r45 hr45 pr45 => ?_)
        refine zr_if_ne (pc := 48) hV 67 dX4_readAct_48 (by decide) (by omega) (fun c4 => ?_) (fun c4 => ?_)
        · show V 67 [some (ZR 132), some (ZI r1), some (ZI r25), some (ZI r40), none] [] 284 σ40
          refine zr_aload_n (pc := 67) hV dX4_readAct_67 rfl rfl ?_
          refine zr_getR (pc := 68) hV 0 1 dX4_readAct_68 fX4_15 rfl rfl (zc_k132 zc_s132) (zc_pos zc_s132 rfl) (zc_g132_0 hσ40 zc_s132) (by decide) ?_
          refine zr_callVv (pc := 71) hV [] (st := []) (c_X8_pass (σ := σ40) hσ40) dX4_readAct_71 mX4_92 (zc_k1 zc_s1) (zc_pos zc_s1 rfl) (by decide) (Nat.le_of_ble_eq_true rfl) (Nat.le_refl _) (fun σ71 pσ71 => ?_)
          obtain ⟨hσ71, hfσ71, pσ71⟩ := pσ71
          have hFσ71 := zc_Fc hfσ71 rfl hFσ40
          refine zr_aload_n (pc := 74) hV dX4_readAct_74 rfl rfl ?_
          refine zr_callVi (pc := 75) hV [] (st := []) (c_X4_readOperand (σ := σ71) hσ71) dX4_readAct_75 mX4_124 (zc_k132 zc_s132) (zc_pos zc_s132 rfl) (by decide) (Nat.le_of_ble_eq_true rfl) (Nat.le_refl _) (fun r75 σ75 hr75 pσ75 => ?_)
          obtain ⟨hσ75, hfσ75, pσ75⟩ := pσ75
          have hFσ75 := zc_Fc hfσ75 rfl hFσ71
          refine zr_istore (pc := 78) hV [some (ZR 132), some (ZI r1), some (ZI r25), some (ZI r40), some (ZI r75)] dX4_readAct_78 (by decide) rfl rfl ?_
          refine zr_iload (pc := 80) hV dX4_readAct_80 rfl ?_
          refine zr_iconst (pc := 82) hV (-1) dX4_readAct_82 rfl ?_
          refine zr_icmp_ne (pc := 83) hV 88 dX4_readAct_83 (by decide) (by omega) ⟨by decide, by decide⟩ (fun c5 => ?_) (fun c5 => ?_)
          · show V 88 [some (ZR 132), some (ZI r1), some (ZI r25), some (ZI r40), some (ZI r75)] [] 284 σ75
            refine zr_aload_n (pc := 88) hV dX4_readAct_88 rfl rfl ?_
            refine zr_getR (pc := 89) hV 1 3 dX4_readAct_89 fX4_19 rfl rfl (zc_k132 zc_s132) (zc_pos zc_s132 rfl) (zc_g132_1 hσ75 zc_s132) (by decide) ?_
            have t6 : σ75 3 5 = σ71 3 5 := hfσ75 _ _ (zc_out_at zc_s3 rfl)
            have t7 : σ71 3 5 = σ40 3 5 := hfσ71 _ _ (zc_out_at zc_s3 rfl)
            have t8 : σ40 3 5 = σ25 3 5 := hfσ40 _ _ (zc_out_at zc_s3 rfl)
            have t9 : σ25 3 5 = σ16 3 5 := hfσ25 _ _ (zc_out_at zc_s3 rfl)
            have t10 : σ16 3 5 = σ1 3 5 := hfσ16 _ _ (zc_out_at zc_s3 rfl)
            have t11 : σ1 3 5 = σ 3 5 := hfσ1 _ _ (zc_out_at zc_s3 rfl)
            obtain ⟨o92, eo92⟩ : ∃ o, σ 3 5 = o := ⟨_, rfl⟩
            have ko92 : zc_kd o92 = 4 := eo92 ▸ zc_g3_5 hσ zc_s3
            have po92 := zc_pos ko92 rfl
            refine zr_getR (pc := 92) hV 5 o92 dX4_readAct_92 fX4_49 rfl rfl (zc_k3 zc_s3) (zc_pos zc_s3 rfl) (by omega) (zc_pos ko92 rfl).1 ?_
            refine zr_iload_n (pc := 95) hV dX4_readAct_95 rfl rfl ?_
            refine zr_iload_n (pc := 96) hV dX4_readAct_96 rfl rfl ?_
            refine zr_iload_n (pc := 97) hV dX4_readAct_97 rfl rfl ?_
            refine zr_iload (pc := 98) hV dX4_readAct_98 rfl ?_
            refine zr_callVv (pc := 100) hV [ZI r1, ZI r25, ZI r40, ZI r75] (st := []) (c_X3_addAct (σ := σ75) hσ75 o92 ko92 r1 r25 r40 r75 (by omega) (by omega) (by omega) (by omega) pσ25.2 pσ75.2) dX4_readAct_100 mX4_130 (zc_k4 ko92) (zc_pos ko92 rfl) (by decide) (Nat.le_of_ble_eq_true rfl) (Nat.le_refl _) (fun σ100 pσ100 => ?_)
            obtain ⟨hσ100, hfσ100, pσ100⟩ := pσ100
            have hFσ100 := zc_Fc hfσ100 rfl hFσ75
            refine zr_iconst (pc := 103) hV 1 dX4_readAct_103 rfl ?_
            exact zr_zret (pc := 104) hV dX4_readAct_104 rfl rfl (by omega) ⟨_, rfl, ⟨by decide, by decide⟩, hσ100, hFσ100, (by omega)⟩
          · show V 86 [some (ZR 132), some (ZI r1), some (ZI r25), some (ZI r40), some (ZI r75)] [] 284 σ75
            refine zr_iconst (pc := 86) hV 0 dX4_readAct_86 rfl ?_
            exact zr_zret (pc := 87) hV dX4_readAct_87 rfl rfl (by omega) ⟨_, rfl, ⟨by decide, by decide⟩, hσ75, hFσ75, (by omega)⟩
        · show V 51 [some (ZR 132), some (ZI r1), some (ZI r25), some (ZI r40), none] [] 284 σ40
          refine zr_aload_n (pc := 51) hV dX4_readAct_51 rfl rfl ?_
          refine zr_getR (pc := 52) hV 1 3 dX4_readAct_52 fX4_19 rfl rfl (zc_k132 zc_s132) (zc_pos zc_s132 rfl) (zc_g132_1 hσ40 zc_s132) (by decide) ?_
          have t12 : σ40 3 5 = σ25 3 5 := hfσ40 _ _ (zc_out_at zc_s3 rfl)
          have t13 : σ25 3 5 = σ16 3 5 := hfσ25 _ _ (zc_out_at zc_s3 rfl)
          have t14 : σ16 3 5 = σ1 3 5 := hfσ16 _ _ (zc_out_at zc_s3 rfl)
          have t15 : σ1 3 5 = σ 3 5 := hfσ1 _ _ (zc_out_at zc_s3 rfl)
          obtain ⟨o55, eo55⟩ : ∃ o, σ 3 5 = o := ⟨_, rfl⟩
          have ko55 : zc_kd o55 = 4 := eo55 ▸ zc_g3_5 hσ zc_s3
          have po55 := zc_pos ko55 rfl
          refine zr_getR (pc := 55) hV 5 o55 dX4_readAct_55 fX4_49 rfl rfl (zc_k3 zc_s3) (zc_pos zc_s3 rfl) (by omega) (zc_pos ko55 rfl).1 ?_
          refine zr_iload_n (pc := 58) hV dX4_readAct_58 rfl rfl ?_
          refine zr_iload_n (pc := 59) hV dX4_readAct_59 rfl rfl ?_
          refine zr_iconst (pc := 60) hV 0 dX4_readAct_60 rfl ?_
          refine zr_iconst (pc := 61) hV 0 dX4_readAct_61 rfl ?_
          refine zr_callVv (pc := 62) hV [ZI r1, ZI r25, ZI 0, ZI 0] (st := []) (c_X3_addAct (σ := σ40) hσ40 o55 ko55 r1 r25 0 0 (by omega) (by omega) (by omega) (by omega) pσ25.2 (Or.inl (by decide))) dX4_readAct_62 mX4_130 (zc_k4 ko55) (zc_pos ko55 rfl) (by decide) (Nat.le_of_ble_eq_true rfl) (Nat.le_refl _) (fun σ62 pσ62 => ?_)
          obtain ⟨hσ62, hfσ62, pσ62⟩ := pσ62
          have hFσ62 := zc_Fc hfσ62 rfl hFσ40
          refine zr_iconst (pc := 65) hV 1 dX4_readAct_65 rfl ?_
          exact zr_zret (pc := 66) hV dX4_readAct_66 rfl rfl (by omega) ⟨_, rfl, ⟨by decide, by decide⟩, hσ62, hFσ62, (by omega)⟩
      · show V 34 [some (ZR 132), some (ZI r1), some (ZI r25), none, none] [] 284 σ25
        refine zr_iconst (pc := 34) hV 0 dX4_readAct_34 rfl ?_
        exact zr_zret (pc := 35) hV dX4_readAct_35 rfl rfl (by omega) ⟨_, rfl, ⟨by decide, by decide⟩, hσ25, hFσ25, (by omega)⟩
    · show V 22 [some (ZR 132), some (ZI r1), none, none, none] [] 284 σ16
      refine zr_iconst (pc := 22) hV 0 dX4_readAct_22 rfl ?_
      exact zr_zret (pc := 23) hV dX4_readAct_23 rfl rfl (by omega) ⟨_, rfl, ⟨by decide, by decide⟩, hσ16, hFσ16, (by omega)⟩
set_option maxHeartbeats 800000 in
theorem c_X4_readActs {σ : zq_S} (hσ : zc_T σ)   : zq_C zc_w yX4_readActs cX4_readActs 2 (some .boolean) 5 110 284 284 [ZR 132] σ (zq_pi (fun r τ => zc_T τ ∧ zc_Fr [(1, 2), (1, 3), (4, 6), (4, 12), (4, 13), (6, -1), (7, -1), (8, -1), (9, -1)] σ τ ∧ ((0 ≤ r ∧ r ≤ 1)))) := by
  refine zq_C_of (by decide) (Nat.le_refl _) (Nat.le_of_ble_eq_true rfl) [some (ZR 132), none] rfl (fun V hV => ?_)
  have hFσ := zc_Fr_rf [(1, 2), (1, 3), (4, 6), (4, 12), (4, 13), (6, -1), (7, -1), (8, -1), (9, -1)] σ
  show V 0 [some (ZR 132), none] [] 284 σ
  refine zr_iconst (pc := 0) hV 0 dX4_readActs_0 rfl ?_
  refine zr_istore_n (pc := 1) hV [some (ZR 132), some (ZI 0)] dX4_readActs_1 rfl (by decide) rfl rfl ?_
  have L2 : ∀ (fuel : Nat) (x1_2 : Int) (σ_2 : zq_S), (0 ≤ x1_2 ∧ x1_2 ≤ 3) → (zc_T σ_2) → (zc_Fr [(1, 2), (1, 3), (4, 6), (4, 12), (4, 13), (6, -1), (7, -1), (8, -1), (9, -1)] σ σ_2) → 3 - x1_2 < (fuel : Int) → V 2 [some (ZR 132), some (ZI x1_2)] [] 284 σ_2 := by
    intro fuel
    induction fuel with
    | zero =>
      intro x1_2 σ_2 hx1_2 hσ_2 hFσ_2 hm2
      exfalso; omega
    | succ fuel ih =>
      intro x1_2 σ_2 hx1_2 hσ_2 hFσ_2 hm2
      have ih2 := ih
      show V 2 [some (ZR 132), some (ZI x1_2)] [] 284 σ_2
      refine zr_iload_n (pc := 2) hV dX4_readActs_2 rfl rfl ?_
      refine zr_iconst (pc := 3) hV 3 dX4_readActs_3 rfl ?_
      refine zr_icmp_ge (pc := 4) hV 40 dX4_readActs_4 (by decide) (by omega) ⟨by decide, by decide⟩ (fun c1 => ?_) (fun c1 => ?_)
      · show V 40 [some (ZR 132), some (ZI x1_2)] [] 284 σ_2
        refine zr_iconst (pc := 40) hV 1 dX4_readActs_40 rfl ?_
        exact zr_zret (pc := 41) hV dX4_readActs_41 rfl rfl (by omega) ⟨_, rfl, ⟨by decide, by decide⟩, hσ_2, hFσ_2, (by omega)⟩
      · show V 7 [some (ZR 132), some (ZI x1_2)] [] 284 σ_2
        refine zr_iload_n (pc := 7) hV dX4_readActs_7 rfl rfl ?_
        refine zr_if_le (pc := 8) hV 25 dX4_readActs_8 (by decide) (by omega) (fun c2 => ?_) (fun c2 => ?_)
        · show V 25 [some (ZR 132), some (ZI x1_2)] [] 284 σ_2
          refine zr_aload_n (pc := 25) hV dX4_readActs_25 rfl rfl ?_
          refine zr_callVi (pc := 26) hV [] (st := []) (c_X4_readAct (σ := σ_2) hσ_2) dX4_readActs_26 mX4_118 (zc_k132 zc_s132) (zc_pos zc_s132 rfl) (by decide) (Nat.le_of_ble_eq_true rfl) (Nat.le_refl _) (fun r26 σ26 hr26 pσ26 => ?_)
          obtain ⟨hσ26, hfσ26, pσ26⟩ := pσ26
          have hFσ26 := zc_Fc hfσ26 rfl hFσ_2
          refine zr_if_ne (pc := 29) hV 34 dX4_readActs_29 (by decide) (by omega) (fun c3 => ?_) (fun c3 => ?_)
          · show V 34 [some (ZR 132), some (ZI x1_2)] [] 284 σ26
            refine zr_iinc (pc := 34) hV [some (ZR 132), some (ZI (x1_2 + 1))] (x1_2 + 1) dX4_readActs_34 rfl rfl (by decide) rfl rfl ?_
            refine zr_goto (pc := 37) hV 2 dX4_readActs_37 (by decide) ?_
            exact ih2 (x1_2 + 1) σ26 (by omega) hσ26 hFσ26 (by omega)
          · show V 32 [some (ZR 132), some (ZI x1_2)] [] 284 σ26
            refine zr_iconst (pc := 32) hV 0 dX4_readActs_32 rfl ?_
            exact zr_zret (pc := 33) hV dX4_readActs_33 rfl rfl (by omega) ⟨_, rfl, ⟨by decide, by decide⟩, hσ26, hFσ26, (by omega)⟩
        · show V 11 [some (ZR 132), some (ZI x1_2)] [] 284 σ_2
          refine zr_aload_n (pc := 11) hV dX4_readActs_11 rfl rfl ?_
          refine zr_getR (pc := 12) hV 0 1 dX4_readActs_12 fX4_15 rfl rfl (zc_k132 zc_s132) (zc_pos zc_s132 rfl) (zc_g132_0 hσ_2 zc_s132) (by decide) ?_
          refine zr_bipush (pc := 15) hV 44 dX4_readActs_15 (by decide) ?_
          refine zr_callVi (pc := 17) hV [ZI 44] (st := []) (c_X8_takes (σ := σ_2) hσ_2 44 (by omega)) dX4_readActs_17 mX4_27 (zc_k1 zc_s1) (zc_pos zc_s1 rfl) (by decide) (Nat.le_of_ble_eq_true rfl) (Nat.le_refl _) (fun r17 σ17 hr17 pσ17 => ?_)
          obtain ⟨hσ17, hfσ17, pσ17⟩ := pσ17
          have hFσ17 := zc_Fc hfσ17 rfl hFσ_2
          refine zr_if_ne (pc := 20) hV 25 dX4_readActs_20 (by decide) (by omega) (fun c4 => ?_) (fun c4 => ?_)
          · show V 25 [some (ZR 132), some (ZI x1_2)] [] 284 σ17
            refine zr_aload_n (pc := 25) hV dX4_readActs_25 rfl rfl ?_
            refine zr_callVi (pc := 26) hV [] (st := []) (c_X4_readAct (σ := σ17) hσ17) dX4_readActs_26 mX4_118 (zc_k132 zc_s132) (zc_pos zc_s132 rfl) (by decide) (Nat.le_of_ble_eq_true rfl) (Nat.le_refl _) (fun r26 σ26 hr26 pσ26 => ?_)
            obtain ⟨hσ26, hfσ26, pσ26⟩ := pσ26
            have hFσ26 := zc_Fc hfσ26 rfl hFσ17
            refine zr_if_ne (pc := 29) hV 34 dX4_readActs_29 (by decide) (by omega) (fun c5 => ?_) (fun c5 => ?_)
            · show V 34 [some (ZR 132), some (ZI x1_2)] [] 284 σ26
              refine zr_iinc (pc := 34) hV [some (ZR 132), some (ZI (x1_2 + 1))] (x1_2 + 1) dX4_readActs_34 rfl rfl (by decide) rfl rfl ?_
              refine zr_goto (pc := 37) hV 2 dX4_readActs_37 (by decide) ?_
              exact ih2 (x1_2 + 1) σ26 (by omega) hσ26 hFσ26 (by omega)
            · show V 32 [some (ZR 132), some (ZI x1_2)] [] 284 σ26
              refine zr_iconst (pc := 32) hV 0 dX4_readActs_32 rfl ?_
              exact zr_zret (pc := 33) hV dX4_readActs_33 rfl rfl (by omega) ⟨_, rfl, ⟨by decide, by decide⟩, hσ26, hFσ26, (by omega)⟩
          · show V 23 [some (ZR 132), some (ZI x1_2)] [] 284 σ17
            refine zr_iconst (pc := 23) hV 1 dX4_readActs_23 rfl ?_
            exact zr_zret (pc := 24) hV dX4_readActs_24 rfl rfl (by omega) ⟨_, rfl, ⟨by decide, by decide⟩, hσ17, hFσ17, (by omega)⟩
  exact L2 (3 - (0 : Int) + 1 : Int).toNat 0 σ (by omega) hσ hFσ (by omega)
set_option maxHeartbeats 800000 in
theorem c_X4_readTicks {σ : zq_S} (hσ : zc_T σ)   : zq_C zc_w yX4_readTicks cX4_readTicks 2 (some .boolean) 1 20 284 284 [ZR 132] σ (zq_pi (fun r τ => zc_T τ ∧ zc_Fr [(1, 2), (4, 11)] σ τ ∧ ((0 ≤ r ∧ r ≤ 1)))) := by
  refine zq_C_of (by decide) (Nat.le_refl _) (Nat.le_of_ble_eq_true rfl) [some (ZR 132), none] rfl (fun V hV => ?_)
  have hFσ := zc_Fr_rf [(1, 2), (4, 11)] σ
  show V 0 [some (ZR 132), none] [] 284 σ
  refine zr_aload_n (pc := 0) hV dX4_readTicks_0 rfl rfl ?_
  refine zr_getR (pc := 1) hV 0 1 dX4_readTicks_1 fX4_15 rfl rfl (zc_k132 zc_s132) (zc_pos zc_s132 rfl) (zc_g132_0 hσ zc_s132) (by decide) ?_
  refine zr_callVi (pc := 4) hV [] (st := []) (c_X8_next (σ := σ) hσ) dX4_readTicks_4 mX4_45 (zc_k1 zc_s1) (zc_pos zc_s1 rfl) (by decide) (Nat.le_of_ble_eq_true rfl) (Nat.le_refl _) (fun r4 σ4 hr4 pσ4 => ?_)
  obtain ⟨hσ4, hfσ4, pσ4⟩ := pσ4
  have hFσ4 := zc_Fc hfσ4 rfl hFσ
  refine zr_istore_n (pc := 7) hV [some (ZR 132), some (ZI r4)] dX4_readTicks_7 rfl (by decide) rfl rfl ?_
  refine zr_iload_n (pc := 8) hV dX4_readTicks_8 rfl rfl ?_
  refine zr_bipush (pc := 9) hV 49 dX4_readTicks_9 (by decide) ?_
  refine zr_icmp_lt (pc := 11) hV 20 dX4_readTicks_11 (by decide) (by omega) ⟨by decide, by decide⟩ (fun c1 => ?_) (fun c1 => ?_)
  · show V 20 [some (ZR 132), some (ZI r4)] [] 284 σ4
    refine zr_iconst (pc := 20) hV 0 dX4_readTicks_20 rfl ?_
    exact zr_zret (pc := 21) hV dX4_readTicks_21 rfl rfl (by omega) ⟨_, rfl, ⟨by decide, by decide⟩, hσ4, hFσ4, (by omega)⟩
  · show V 14 [some (ZR 132), some (ZI r4)] [] 284 σ4
    refine zr_iload_n (pc := 14) hV dX4_readTicks_14 rfl rfl ?_
    refine zr_bipush (pc := 15) hV 57 dX4_readTicks_15 (by decide) ?_
    refine zr_icmp_le (pc := 17) hV 22 dX4_readTicks_17 (by decide) (by omega) ⟨by decide, by decide⟩ (fun c2 => ?_) (fun c2 => ?_)
    · show V 22 [some (ZR 132), some (ZI r4)] [] 284 σ4
      refine zr_aload_n (pc := 22) hV dX4_readTicks_22 rfl rfl ?_
      refine zr_getR (pc := 23) hV 0 1 dX4_readTicks_23 fX4_15 rfl rfl (zc_k132 zc_s132) (zc_pos zc_s132 rfl) (zc_g132_0 hσ4 zc_s132) (by decide) ?_
      refine zr_callVv (pc := 26) hV [] (st := []) (c_X8_pass (σ := σ4) hσ4) dX4_readTicks_26 mX4_92 (zc_k1 zc_s1) (zc_pos zc_s1 rfl) (by decide) (Nat.le_of_ble_eq_true rfl) (Nat.le_refl _) (fun σ26 pσ26 => ?_)
      obtain ⟨hσ26, hfσ26, pσ26⟩ := pσ26
      have hFσ26 := zc_Fc hfσ26 rfl hFσ4
      refine zr_aload_n (pc := 29) hV dX4_readTicks_29 rfl rfl ?_
      refine zr_getR (pc := 30) hV 1 3 dX4_readTicks_30 fX4_19 rfl rfl (zc_k132 zc_s132) (zc_pos zc_s132 rfl) (zc_g132_1 hσ26 zc_s132) (by decide) ?_
      have t3 : σ26 3 5 = σ4 3 5 := hfσ26 _ _ (zc_out_at zc_s3 rfl)
      have t4 : σ4 3 5 = σ 3 5 := hfσ4 _ _ (zc_out_at zc_s3 rfl)
      obtain ⟨o33, eo33⟩ : ∃ o, σ 3 5 = o := ⟨_, rfl⟩
      have ko33 : zc_kd o33 = 4 := eo33 ▸ zc_g3_5 hσ zc_s3
      have po33 := zc_pos ko33 rfl
      refine zr_getR (pc := 33) hV 5 o33 dX4_readTicks_33 fX4_49 rfl rfl (zc_k3 zc_s3) (zc_pos zc_s3 rfl) (by omega) (zc_pos ko33 rfl).1 ?_
      refine zr_iload_n (pc := 36) hV dX4_readTicks_36 rfl rfl ?_
      refine zr_bipush (pc := 37) hV 48 dX4_readTicks_37 (by decide) ?_
      refine zr_isub (pc := 39) hV dX4_readTicks_39 ?_
      refine zr_putI (pc := 40) hV 11 dX4_readTicks_40 fX4_143 rfl rfl rfl (zc_k4 ko33) (zc_pos ko33 rfl) (fun σ40 eσ40 => ?_)
      have hσ40 : zc_T σ40 := zc_u4_11 eσ40 hσ26 ko33 (by omega)
      have hFσ40 := zc_Fw eσ40 ko33 rfl hFσ26
      refine zr_iconst (pc := 43) hV 1 dX4_readTicks_43 rfl ?_
      exact zr_zret (pc := 44) hV dX4_readTicks_44 rfl rfl (by omega) ⟨_, rfl, ⟨by decide, by decide⟩, hσ40, hFσ40, (by omega)⟩
    · show V 20 [some (ZR 132), some (ZI r4)] [] 284 σ4
      refine zr_iconst (pc := 20) hV 0 dX4_readTicks_20 rfl ?_
      exact zr_zret (pc := 21) hV dX4_readTicks_21 rfl rfl (by omega) ⟨_, rfl, ⟨by decide, by decide⟩, hσ4, hFσ4, (by omega)⟩
set_option maxHeartbeats 800000 in
theorem c_X4_readOrder {σ : zq_S} (hσ : zc_T σ)   : zq_C zc_w yX4_readOrder cX4_readOrder 1 (some .boolean) 6 131 284 284 [ZR 132] σ (zq_pi (fun r τ => zc_T τ ∧ zc_Fr [(1, 2), (1, 3), (4, 0), (4, 1), (4, 2), (4, 4), (4, 5), (4, 6), (4, 11), (4, 12), (4, 13), (4, 14), (4, 15), (4, 16), (5, -1), (6, -1), (7, -1), (8, -1), (9, -1)] σ τ ∧ ((0 ≤ r ∧ r ≤ 1)))) := by
  refine zq_C_of (by decide) (Nat.le_refl _) (Nat.le_of_ble_eq_true rfl) [some (ZR 132)] rfl (fun V hV => ?_)
  have hFσ := zc_Fr_rf [(1, 2), (1, 3), (4, 0), (4, 1), (4, 2), (4, 4), (4, 5), (4, 6), (4, 11), (4, 12), (4, 13), (4, 14), (4, 15), (4, 16), (5, -1), (6, -1), (7, -1), (8, -1), (9, -1)] σ
  show V 0 [some (ZR 132)] [] 284 σ
  refine zr_aload_n (pc := 0) hV dX4_readOrder_0 rfl rfl ?_
  refine zr_callVi (pc := 1) hV [] (st := []) (c_X4_readNewName (σ := σ) hσ) dX4_readOrder_1 mX4_23 (zc_k132 zc_s132) (zc_pos zc_s132 rfl) (by decide) (Nat.le_of_ble_eq_true rfl) (Nat.le_refl _) (fun r1 σ1 hr1 pσ1 => ?_)
  obtain ⟨hσ1, hfσ1, pσ1⟩ := pσ1
  have hFσ1 := zc_Fc hfσ1 rfl hFσ
  refine zr_if_eq (pc := 4) hV 86 dX4_readOrder_4 (by decide) (by omega) (fun c1 => ?_) (fun c1 => ?_)
  · show V 86 [some (ZR 132)] [] 284 σ1
    refine zr_iconst (pc := 86) hV 0 dX4_readOrder_86 rfl ?_
    show V 87 [some (ZR 132)] [ZI 0] 284 σ1
    exact zr_zret (pc := 87) hV dX4_readOrder_87 rfl rfl (by omega) ⟨_, rfl, ⟨by decide, by decide⟩, hσ1, hFσ1, (by omega)⟩
  · show V 7 [some (ZR 132)] [] 284 σ1
    refine zr_aload_n (pc := 7) hV dX4_readOrder_7 rfl rfl ?_
    refine zr_getR (pc := 8) hV 0 1 dX4_readOrder_8 fX4_15 rfl rfl (zc_k132 zc_s132) (zc_pos zc_s132 rfl) (zc_g132_0 hσ1 zc_s132) (by decide) ?_
    refine zr_bipush (pc := 11) hV 58 dX4_readOrder_11 (by decide) ?_
    refine zr_callVi (pc := 13) hV [ZI 58] (st := []) (c_X8_takes (σ := σ1) hσ1 58 (by omega)) dX4_readOrder_13 mX4_27 (zc_k1 zc_s1) (zc_pos zc_s1 rfl) (by decide) (Nat.le_of_ble_eq_true rfl) (Nat.le_refl _) (fun r13 σ13 hr13 pσ13 => ?_)
    obtain ⟨hσ13, hfσ13, pσ13⟩ := pσ13
    have hFσ13 := zc_Fc hfσ13 rfl hFσ1
    refine zr_if_eq (pc := 16) hV 86 dX4_readOrder_16 (by decide) (by omega) (fun c2 => ?_) (fun c2 => ?_)
    · show V 86 [some (ZR 132)] [] 284 σ13
      refine zr_iconst (pc := 86) hV 0 dX4_readOrder_86 rfl ?_
      show V 87 [some (ZR 132)] [ZI 0] 284 σ13
      exact zr_zret (pc := 87) hV dX4_readOrder_87 rfl rfl (by omega) ⟨_, rfl, ⟨by decide, by decide⟩, hσ13, hFσ13, (by omega)⟩
    · show V 19 [some (ZR 132)] [] 284 σ13
      refine zr_aload_n (pc := 19) hV dX4_readOrder_19 rfl rfl ?_
      refine zr_callVi (pc := 20) hV [] (st := []) (c_X4_readLook (σ := σ13) hσ13) dX4_readOrder_20 mX4_33 (zc_k132 zc_s132) (zc_pos zc_s132 rfl) (by decide) (Nat.le_of_ble_eq_true rfl) (Nat.le_refl _) (fun r20 σ20 hr20 pσ20 => ?_)
      obtain ⟨hσ20, hfσ20, pσ20⟩ := pσ20
      have hFσ20 := zc_Fc hfσ20 rfl hFσ13
      refine zr_if_eq (pc := 23) hV 86 dX4_readOrder_23 (by decide) (by omega) (fun c3 => ?_) (fun c3 => ?_)
      · show V 86 [some (ZR 132)] [] 284 σ20
        refine zr_iconst (pc := 86) hV 0 dX4_readOrder_86 rfl ?_
        show V 87 [some (ZR 132)] [ZI 0] 284 σ20
        exact zr_zret (pc := 87) hV dX4_readOrder_87 rfl rfl (by omega) ⟨_, rfl, ⟨by decide, by decide⟩, hσ20, hFσ20, (by omega)⟩
      · show V 26 [some (ZR 132)] [] 284 σ20
        refine zr_aload_n (pc := 26) hV dX4_readOrder_26 rfl rfl ?_
        refine zr_getR (pc := 27) hV 0 1 dX4_readOrder_27 fX4_15 rfl rfl (zc_k132 zc_s132) (zc_pos zc_s132 rfl) (zc_g132_0 hσ20 zc_s132) (by decide) ?_
        refine zr_bipush (pc := 30) hV 58 dX4_readOrder_30 (by decide) ?_
        refine zr_callVi (pc := 32) hV [ZI 58] (st := []) (c_X8_takes (σ := σ20) hσ20 58 (by omega)) dX4_readOrder_32 mX4_27 (zc_k1 zc_s1) (zc_pos zc_s1 rfl) (by decide) (Nat.le_of_ble_eq_true rfl) (Nat.le_refl _) (fun r32 σ32 hr32 pσ32 => ?_)
        obtain ⟨hσ32, hfσ32, pσ32⟩ := pσ32
        have hFσ32 := zc_Fc hfσ32 rfl hFσ20
        refine zr_if_eq (pc := 35) hV 86 dX4_readOrder_35 (by decide) (by omega) (fun c4 => ?_) (fun c4 => ?_)
        · show V 86 [some (ZR 132)] [] 284 σ32
          refine zr_iconst (pc := 86) hV 0 dX4_readOrder_86 rfl ?_
          show V 87 [some (ZR 132)] [ZI 0] 284 σ32
          exact zr_zret (pc := 87) hV dX4_readOrder_87 rfl rfl (by omega) ⟨_, rfl, ⟨by decide, by decide⟩, hσ32, hFσ32, (by omega)⟩
        · show V 38 [some (ZR 132)] [] 284 σ32
          refine zr_aload_n (pc := 38) hV dX4_readOrder_38 rfl rfl ?_
          refine zr_callVi (pc := 39) hV [] (st := []) (c_X4_readGuard (σ := σ32) hσ32) dX4_readOrder_39 mX4_36 (zc_k132 zc_s132) (zc_pos zc_s132 rfl) (by decide) (Nat.le_of_ble_eq_true rfl) (Nat.le_refl _) (fun r39 σ39 hr39 pσ39 => ?_)
          obtain ⟨hσ39, hfσ39, pσ39⟩ := pσ39
          have hFσ39 := zc_Fc hfσ39 rfl hFσ32
          refine zr_if_eq (pc := 42) hV 86 dX4_readOrder_42 (by decide) (by omega) (fun c5 => ?_) (fun c5 => ?_)
          · show V 86 [some (ZR 132)] [] 284 σ39
            refine zr_iconst (pc := 86) hV 0 dX4_readOrder_86 rfl ?_
            show V 87 [some (ZR 132)] [ZI 0] 284 σ39
            exact zr_zret (pc := 87) hV dX4_readOrder_87 rfl rfl (by omega) ⟨_, rfl, ⟨by decide, by decide⟩, hσ39, hFσ39, (by omega)⟩
          · show V 45 [some (ZR 132)] [] 284 σ39
            refine zr_aload_n (pc := 45) hV dX4_readOrder_45 rfl rfl ?_
            refine zr_callVi (pc := 46) hV [] (st := []) (c_X4_readActs (σ := σ39) hσ39) dX4_readOrder_46 mX4_39 (zc_k132 zc_s132) (zc_pos zc_s132 rfl) (by decide) (Nat.le_of_ble_eq_true rfl) (Nat.le_refl _) (fun r46 σ46 hr46 pσ46 => ?_)
            obtain ⟨hσ46, hfσ46, pσ46⟩ := pσ46
            have hFσ46 := zc_Fc hfσ46 rfl hFσ39
            refine zr_if_eq (pc := 49) hV 86 dX4_readOrder_49 (by decide) (by omega) (fun c6 => ?_) (fun c6 => ?_)
            · show V 86 [some (ZR 132)] [] 284 σ46
              refine zr_iconst (pc := 86) hV 0 dX4_readOrder_86 rfl ?_
              show V 87 [some (ZR 132)] [ZI 0] 284 σ46
              exact zr_zret (pc := 87) hV dX4_readOrder_87 rfl rfl (by omega) ⟨_, rfl, ⟨by decide, by decide⟩, hσ46, hFσ46, (by omega)⟩
            · show V 52 [some (ZR 132)] [] 284 σ46
              refine zr_aload_n (pc := 52) hV dX4_readOrder_52 rfl rfl ?_
              refine zr_getR (pc := 53) hV 0 1 dX4_readOrder_53 fX4_15 rfl rfl (zc_k132 zc_s132) (zc_pos zc_s132 rfl) (zc_g132_0 hσ46 zc_s132) (by decide) ?_
              refine zr_bipush (pc := 56) hV 58 dX4_readOrder_56 (by decide) ?_
              refine zr_callVi (pc := 58) hV [ZI 58] (st := []) (c_X8_takes (σ := σ46) hσ46 58 (by omega)) dX4_readOrder_58 mX4_27 (zc_k1 zc_s1) (zc_pos zc_s1 rfl) (by decide) (Nat.le_of_ble_eq_true rfl) (Nat.le_refl _) (fun r58 σ58 hr58 pσ58 => ?_)
              obtain ⟨hσ58, hfσ58, pσ58⟩ := pσ58
              have hFσ58 := zc_Fc hfσ58 rfl hFσ46
              refine zr_if_eq (pc := 61) hV 86 dX4_readOrder_61 (by decide) (by omega) (fun c7 => ?_) (fun c7 => ?_)
              · show V 86 [some (ZR 132)] [] 284 σ58
                refine zr_iconst (pc := 86) hV 0 dX4_readOrder_86 rfl ?_
                show V 87 [some (ZR 132)] [ZI 0] 284 σ58
                exact zr_zret (pc := 87) hV dX4_readOrder_87 rfl rfl (by omega) ⟨_, rfl, ⟨by decide, by decide⟩, hσ58, hFσ58, (by omega)⟩
              · show V 64 [some (ZR 132)] [] 284 σ58
                refine zr_aload_n (pc := 64) hV dX4_readOrder_64 rfl rfl ?_
                refine zr_callVi (pc := 65) hV [] (st := []) (c_X4_readTicks (σ := σ58) hσ58) dX4_readOrder_65 mX4_42 (zc_k132 zc_s132) (zc_pos zc_s132 rfl) (by decide) (Nat.le_of_ble_eq_true rfl) (Nat.le_refl _) (fun r65 σ65 hr65 pσ65 => ?_)
                obtain ⟨hσ65, hfσ65, pσ65⟩ := pσ65
                have hFσ65 := zc_Fc hfσ65 rfl hFσ58
                refine zr_if_eq (pc := 68) hV 86 dX4_readOrder_68 (by decide) (by omega) (fun c8 => ?_) (fun c8 => ?_)
                · show V 86 [some (ZR 132)] [] 284 σ65
                  refine zr_iconst (pc := 86) hV 0 dX4_readOrder_86 rfl ?_
                  show V 87 [some (ZR 132)] [ZI 0] 284 σ65
                  exact zr_zret (pc := 87) hV dX4_readOrder_87 rfl rfl (by omega) ⟨_, rfl, ⟨by decide, by decide⟩, hσ65, hFσ65, (by omega)⟩
                · show V 71 [some (ZR 132)] [] 284 σ65
                  refine zr_aload_n (pc := 71) hV dX4_readOrder_71 rfl rfl ?_
                  refine zr_getR (pc := 72) hV 0 1 dX4_readOrder_72 fX4_15 rfl rfl (zc_k132 zc_s132) (zc_pos zc_s132 rfl) (zc_g132_0 hσ65 zc_s132) (by decide) ?_
                  refine zr_callVi (pc := 75) hV [] (st := []) (c_X8_next (σ := σ65) hσ65) dX4_readOrder_75 mX4_45 (zc_k1 zc_s1) (zc_pos zc_s1 rfl) (by decide) (Nat.le_of_ble_eq_true rfl) (Nat.le_refl _) (fun r75 σ75 hr75 pσ75 => ?_)
                  obtain ⟨hσ75, hfσ75, pσ75⟩ := pσ75
                  have hFσ75 := zc_Fc hfσ75 rfl hFσ65
                  refine zr_iconst (pc := 78) hV (-1) dX4_readOrder_78 rfl ?_
                  refine zr_icmp_ne (pc := 79) hV 86 dX4_readOrder_79 (by decide) (by omega) ⟨by decide, by decide⟩ (fun c9 => ?_) (fun c9 => ?_)
                  · show V 86 [some (ZR 132)] [] 284 σ75
                    refine zr_iconst (pc := 86) hV 0 dX4_readOrder_86 rfl ?_
                    show V 87 [some (ZR 132)] [ZI 0] 284 σ75
                    exact zr_zret (pc := 87) hV dX4_readOrder_87 rfl rfl (by omega) ⟨_, rfl, ⟨by decide, by decide⟩, hσ75, hFσ75, (by omega)⟩
                  · show V 82 [some (ZR 132)] [] 284 σ75
                    refine zr_iconst (pc := 82) hV 1 dX4_readOrder_82 rfl ?_
                    refine zr_goto (pc := 83) hV 87 dX4_readOrder_83 (by decide) ?_
                    show V 87 [some (ZR 132)] [ZI 1] 284 σ75
                    exact zr_zret (pc := 87) hV dX4_readOrder_87 rfl rfl (by omega) ⟨_, rfl, ⟨by decide, by decide⟩, hσ75, hFσ75, (by omega)⟩
set_option maxHeartbeats 800000 in
theorem c_X4_readLine {σ : zq_S} (hσ : zc_T σ)   : zq_C zc_w yX4_readLine cX4_readLine 6 (some .int) 2 43 284 284 [ZR 132] σ (zq_pi (fun r τ => zc_T τ ∧ zc_Fr [(1, 2), (1, 3)] σ τ ∧ (True))) := by
  refine zq_C_of (by decide) (Nat.le_refl _) (Nat.le_of_ble_eq_true rfl) [some (ZR 132), none, none, none, none, none] rfl (fun V hV => ?_)
  have hFσ := zc_Fr_rf [(1, 2), (1, 3)] σ
  show V 0 [some (ZR 132), none, none, none, none, none] [] 284 σ
  refine zr_aload_n (pc := 0) hV dX4_readLine_0 rfl rfl ?_
  refine zr_getR (pc := 1) hV 0 1 dX4_readLine_1 fX4_15 rfl rfl (zc_k132 zc_s132) (zc_pos zc_s132 rfl) (zc_g132_0 hσ zc_s132) (by decide) ?_
  refine zr_callVv (pc := 4) hV [] (st := []) (c_X8_rewind (σ := σ) hσ) dX4_readLine_4 mX4_60 (zc_k1 zc_s1) (zc_pos zc_s1 rfl) (by decide) (Nat.le_of_ble_eq_true rfl) (Nat.le_refl _) (fun σ4 pσ4 => ?_)
  obtain ⟨hσ4, hfσ4, pσ4⟩ := pσ4
  have hFσ4 := zc_Fc hfσ4 rfl hFσ
  refine zr_aload_n (pc := 7) hV dX4_readLine_7 rfl rfl ?_
  refine zr_getR (pc := 8) hV 1 3 dX4_readLine_8 fX4_19 rfl rfl (zc_k132 zc_s132) (zc_pos zc_s132 rfl) (zc_g132_1 hσ4 zc_s132) (by decide) ?_
  refine zr_aload_n (pc := 11) hV dX4_readLine_11 rfl rfl ?_
  refine zr_getR (pc := 12) hV 1 3 dX4_readLine_12 fX4_19 rfl rfl (zc_k132 zc_s132) (zc_pos zc_s132 rfl) (zc_g132_1 hσ4 zc_s132) (by decide) ?_
  refine zr_aload_n (pc := 15) hV dX4_readLine_15 rfl rfl ?_
  refine zr_getR (pc := 16) hV 0 1 dX4_readLine_16 fX4_15 rfl rfl (zc_k132 zc_s132) (zc_pos zc_s132 rfl) (zc_g132_0 hσ4 zc_s132) (by decide) ?_
  refine zr_callVi (pc := 19) hV [] (st := [ZR 3, ZR 3]) (c_X8_takeName (σ := σ4) hσ4) dX4_readLine_19 mX4_63 (zc_k1 zc_s1) (zc_pos zc_s1 rfl) (by decide) (Nat.le_of_ble_eq_true rfl) (Nat.le_refl _) (fun r19 σ19 hr19 pσ19 => ?_)
  obtain ⟨hσ19, hfσ19, pσ19⟩ := pσ19
  have hFσ19 := zc_Fc hfσ19 rfl hFσ4
  refine zr_callVp (pc := 22) hV [ZI r19] (st := [ZR 3]) (c_X9_nameNumber (σ := σ19) hσ19 r19 (by omega)) dX4_readLine_22 mX4_70 (zc_k3 zc_s3) (zc_pos zc_s3 rfl) (by decide) (Nat.le_of_ble_eq_true rfl) (Nat.le_refl _) (fun r22 hr22 pr22 => ?_)
  refine zr_callVr (pc := 25) hV [ZI r22] (st := []) (c_X9_numbered (σ := σ19) hσ19 r22 (by omega)) dX4_readLine_25 mX4_146 (zc_k3 zc_s3) (zc_pos zc_s3 rfl) (by decide) (Nat.le_of_ble_eq_true rfl) (Nat.le_refl _) (fun r25 pr25 => ?_)
  refine zr_astore_nQ (pc := 28) hV [some (ZR 132), some (zq_nr r25), none, none, none, none] dX4_readLine_28 rfl (by decide) rfl rfl ?_
  refine zr_aload_nQ (pc := 29) hV dX4_readLine_29 rfl rfl ?_
  by_cases c1 : r25 < 0
  · rw [zq_nr_n c1]
    refine zr_ifnonnullN (pc := 30) hV dX4_readLine_30 ?_
    show V 33 [some (ZR 132), some (ZN), none, none, none, none] [] 284 σ19
    refine zr_aload_n (pc := 33) hV dX4_readLine_33 rfl rfl ?_
    refine zr_getR (pc := 34) hV 0 1 dX4_readLine_34 fX4_15 rfl rfl (zc_k132 zc_s132) (zc_pos zc_s132 rfl) (zc_g132_0 hσ19 zc_s132) (by decide) ?_
    refine zr_callVv (pc := 37) hV [] (st := []) (c_X8_blameWord (σ := σ19) hσ19) dX4_readLine_37 mX4_74 (zc_k1 zc_s1) (zc_pos zc_s1 rfl) (by decide) (Nat.le_of_ble_eq_true rfl) (Nat.le_refl _) (fun σ37 pσ37 => ?_)
    obtain ⟨hσ37, hfσ37, pσ37⟩ := pσ37
    have hFσ37 := zc_Fc hfσ37 rfl hFσ19
    refine zr_iconst (pc := 40) hV (-1) dX4_readLine_40 rfl ?_
    exact zr_iret (pc := 41) hV dX4_readLine_41 rfl rfl ⟨_, rfl, ⟨by decide, by decide⟩, hσ37, hFσ37, trivial⟩
  · rw [zq_nr_p c1]
    have kr25 : zc_kd r25 = 4 := pr25.1 (by omega)
    have por25 := zc_pos kr25 rfl
    refine zr_ifnonnull (pc := 30) hV 42 dX4_readLine_30 (by decide) ?_
    show V 42 [some (ZR 132), some (ZR r25), none, none, none, none] [] 284 σ19
    refine zr_aload_n (pc := 42) hV dX4_readLine_42 rfl rfl ?_
    refine zr_getI (pc := 43) hV 2 dX4_readLine_43 fX4_89 rfl rfl (zc_k4 kr25) (zc_pos kr25 rfl) ?_
    have t2 := zc_g4_2 hσ19 kr25
    have t3 : σ19 r25 2 = σ4 r25 2 := hfσ19 _ _ (zc_out_at kr25 rfl)
    have t4 : σ4 r25 2 = σ r25 2 := hfσ4 _ _ (zc_out_at kr25 rfl)
    refine zr_istore_n (pc := 46) hV [some (ZR 132), some (ZR r25), some (ZI (σ19 r25 2)), none, none, none] dX4_readLine_46 rfl (by decide) rfl rfl ?_
    refine zr_iconst (pc := 47) hV 1 dX4_readLine_47 rfl ?_
    refine zr_istore_n (pc := 48) hV [some (ZR 132), some (ZR r25), some (ZI (σ19 r25 2)), some (ZI 1), none, none] dX4_readLine_48 rfl (by decide) rfl rfl ?_
    refine zr_iconst (pc := 49) hV 0 dX4_readLine_49 rfl ?_
    refine zr_istore (pc := 50) hV [some (ZR 132), some (ZR r25), some (ZI (σ19 r25 2)), some (ZI 1), some (ZI 0), none] dX4_readLine_50 (by decide) rfl rfl ?_
    have L52 : ∀ (fuel : Nat) (x2_52 : Int) (x3_52 : Int) (x4_52 : Int) (σ_52 : zq_S), ((-2147483648) ≤ x2_52 ∧ x2_52 ≤ 2147483647) → (0 ≤ x3_52 ∧ x3_52 ≤ 1) → (0 ≤ x4_52 ∧ x4_52 ≤ 4) → (zc_T σ_52) → (zc_Fr [(1, 2), (1, 3)] σ σ_52) → 4 - x4_52 < (fuel : Int) → V 52 [some (ZR 132), some (ZR r25), some (ZI x2_52), some (ZI x3_52), some (ZI x4_52), none] [] 284 σ_52 := by
      intro fuel
      induction fuel with
      | zero =>
        intro x2_52 x3_52 x4_52 σ_52 hx2_52 hx3_52 hx4_52 hσ_52 hFσ_52 hm52
        exfalso; omega
      | succ fuel ih =>
        intro x2_52 x3_52 x4_52 σ_52 hx2_52 hx3_52 hx4_52 hσ_52 hFσ_52 hm52
        have ih52 := ih
        show V 52 [some (ZR 132), some (ZR r25), some (ZI x2_52), some (ZI x3_52), some (ZI x4_52), none] [] 284 σ_52
        refine zr_iload (pc := 52) hV dX4_readLine_52 rfl ?_
        refine zr_iconst (pc := 54) hV 3 dX4_readLine_54 rfl ?_
        refine zr_icmp_gt (pc := 55) hV 132 dX4_readLine_55 (by decide) (by omega) ⟨by decide, by decide⟩ (fun c5 => ?_) (fun c5 => ?_)
        · show V 132 [some (ZR 132), some (ZR r25), some (ZI x2_52), some (ZI x3_52), some (ZI x4_52), none] [] 284 σ_52
          refine zr_aload_n (pc := 132) hV dX4_readLine_132 rfl rfl ?_
          refine zr_getR (pc := 133) hV 0 1 dX4_readLine_133 fX4_15 rfl rfl (zc_k132 zc_s132) (zc_pos zc_s132 rfl) (zc_g132_0 hσ_52 zc_s132) (by decide) ?_
          refine zr_callVi (pc := 136) hV [] (st := []) (c_X8_next (σ := σ_52) hσ_52) dX4_readLine_136 mX4_45 (zc_k1 zc_s1) (zc_pos zc_s1 rfl) (by decide) (Nat.le_of_ble_eq_true rfl) (Nat.le_refl _) (fun r136 σ136 hr136 pσ136 => ?_)
          obtain ⟨hσ136, hfσ136, pσ136⟩ := pσ136
          have hFσ136 := zc_Fc hfσ136 rfl hFσ_52
          refine zr_iconst (pc := 139) hV (-1) dX4_readLine_139 rfl ?_
          refine zr_icmp_ne (pc := 140) hV 147 dX4_readLine_140 (by decide) (by omega) ⟨by decide, by decide⟩ (fun c6 => ?_) (fun c6 => ?_)
          · show V 147 [some (ZR 132), some (ZR r25), some (ZI x2_52), some (ZI x3_52), some (ZI x4_52), none] [] 284 σ136
            refine zr_iconst (pc := 147) hV (-1) dX4_readLine_147 rfl ?_
            show V 148 [some (ZR 132), some (ZR r25), some (ZI x2_52), some (ZI x3_52), some (ZI x4_52), none] [ZI (-1)] 284 σ136
            exact zr_iret (pc := 148) hV dX4_readLine_148 rfl rfl ⟨_, rfl, ⟨by decide, by decide⟩, hσ136, hFσ136, trivial⟩
          · show V 143 [some (ZR 132), some (ZR r25), some (ZI x2_52), some (ZI x3_52), some (ZI x4_52), none] [] 284 σ136
            refine zr_iload_n (pc := 143) hV dX4_readLine_143 rfl rfl ?_
            refine zr_goto (pc := 144) hV 148 dX4_readLine_144 (by decide) ?_
            show V 148 [some (ZR 132), some (ZR r25), some (ZI x2_52), some (ZI x3_52), some (ZI x4_52), none] [ZI x2_52] 284 σ136
            exact zr_iret (pc := 148) hV dX4_readLine_148 rfl rfl ⟨_, rfl, (by omega), hσ136, hFσ136, trivial⟩
        · show V 58 [some (ZR 132), some (ZR r25), some (ZI x2_52), some (ZI x3_52), some (ZI x4_52), none] [] 284 σ_52
          refine zr_aload_n (pc := 58) hV dX4_readLine_58 rfl rfl ?_
          refine zr_iload (pc := 59) hV dX4_readLine_59 rfl ?_
          refine zr_callVp (pc := 61) hV [ZI x4_52] (st := []) (c_X3_hasField (σ := σ_52) hσ_52 r25 kr25 x4_52 (by omega)) dX4_readLine_61 mX4_99 (zc_k4 kr25) (zc_pos kr25 rfl) (by decide) (Nat.le_of_ble_eq_true rfl) (Nat.le_refl _) (fun r61 hr61 pr61 => ?_)
          refine zr_if_ne (pc := 64) hV 70 dX4_readLine_64 (by decide) (by omega) (fun c7 => ?_) (fun c7 => ?_)
          · show V 70 [some (ZR 132), some (ZR r25), some (ZI x2_52), some (ZI x3_52), some (ZI x4_52), none] [] 284 σ_52
            refine zr_iload_n (pc := 70) hV dX4_readLine_70 rfl rfl ?_
            have J88 : ∀ (σ_88 : zq_S), (zc_T σ_88) → (zc_Fr [(1, 2), (1, 3)] σ σ_88) → V 88 [some (ZR 132), some (ZR r25), some (ZI x2_52), none, some (ZI x4_52), none] [] 284 σ_88 := by
              intro σ_88 hσ_88 hFσ_88
              show V 88 [some (ZR 132), some (ZR r25), some (ZI x2_52), none, some (ZI x4_52), none] [] 284 σ_88
              refine zr_aload_n (pc := 88) hV dX4_readLine_88 rfl rfl ?_
              refine zr_getR (pc := 89) hV 0 1 dX4_readLine_89 fX4_15 rfl rfl (zc_k132 zc_s132) (zc_pos zc_s132 rfl) (zc_g132_0 hσ_88 zc_s132) (by decide) ?_
              refine zr_iconst (pc := 92) hV 1 dX4_readLine_92 rfl ?_
              refine zr_aload_n (pc := 93) hV dX4_readLine_93 rfl rfl ?_
              refine zr_iload (pc := 94) hV dX4_readLine_94 rfl ?_
              refine zr_callVp (pc := 96) hV [ZI x4_52] (st := [ZI 1, ZR 1]) (c_X3_fieldBits (σ := σ_88) hσ_88 r25 kr25 x4_52 (by omega)) dX4_readLine_96 mX4_102 (zc_k4 kr25) (zc_pos kr25 rfl) (by decide) (Nat.le_of_ble_eq_true rfl) (Nat.le_refl _) (fun r96 hr96 pr96 => ?_)
              refine zr_ishl (pc := 99) hV dX4_readLine_99 ?_
              have t8 := zq_shl_in 1 r96
              refine zr_iconst (pc := 100) hV 1 dX4_readLine_100 rfl ?_
              refine zr_isub (pc := 101) hV dX4_readLine_101 ?_
              refine zr_any (pc := 102) hV (fun y102 hy102 _ => ?_)
              refine zr_callVi (pc := 102) hV [ZI y102] (st := []) (c_X8_takeNumber (σ := σ_88) hσ_88 y102 (by omega)) dX4_readLine_102 mX4_137 (zc_k1 zc_s1) (zc_pos zc_s1 rfl) (by decide) (Nat.le_of_ble_eq_true rfl) (Nat.le_refl _) (fun r102 σ102 hr102 pσ102 => ?_)
              obtain ⟨hσ102, hfσ102, pσ102⟩ := pσ102
              have hFσ102 := zc_Fc hfσ102 rfl hFσ_88
              refine zr_istore (pc := 105) hV [some (ZR 132), some (ZR r25), some (ZI x2_52), none, some (ZI x4_52), some (ZI r102)] dX4_readLine_105 (by decide) rfl rfl ?_
              refine zr_iload (pc := 107) hV dX4_readLine_107 rfl ?_
              refine zr_if_ge (pc := 109) hV 114 dX4_readLine_109 (by decide) (by omega) (fun c9 => ?_) (fun c9 => ?_)
              · show V 114 [some (ZR 132), some (ZR r25), some (ZI x2_52), none, some (ZI x4_52), some (ZI r102)] [] 284 σ102
                refine zr_aload_n (pc := 114) hV dX4_readLine_114 rfl rfl ?_
                refine zr_iload_n (pc := 115) hV dX4_readLine_115 rfl rfl ?_
                refine zr_iload (pc := 116) hV dX4_readLine_116 rfl ?_
                refine zr_iload (pc := 118) hV dX4_readLine_118 rfl ?_
                refine zr_callVp (pc := 120) hV [ZI x2_52, ZI x4_52, ZI r102] (st := []) (c_X3_withField (σ := σ102) hσ102 r25 kr25 x2_52 x4_52 r102 (by omega) (by omega) (by omega)) dX4_readLine_120 mX4_150 (zc_k4 kr25) (zc_pos kr25 rfl) (by decide) (Nat.le_of_ble_eq_true rfl) (Nat.le_refl _) (fun r120 hr120 pr120 => ?_)
                refine zr_istore_n (pc := 123) hV [some (ZR 132), some (ZR r25), some (ZI r120), none, some (ZI x4_52), some (ZI r102)] dX4_readLine_123 rfl (by decide) rfl rfl ?_
                refine zr_iconst (pc := 124) hV 0 dX4_readLine_124 rfl ?_
                refine zr_istore_n (pc := 125) hV [some (ZR 132), some (ZR r25), some (ZI r120), some (ZI 0), some (ZI x4_52), some (ZI r102)] dX4_readLine_125 rfl (by decide) rfl rfl ?_
                show V 126 [some (ZR 132), some (ZR r25), some (ZI r120), some (ZI 0), some (ZI x4_52), some (ZI r102)] [] 284 σ102
                refine zr_iinc (pc := 126) hV [some (ZR 132), some (ZR r25), some (ZI r120), some (ZI 0), some (ZI (x4_52 + 1)), some (ZI r102)] (x4_52 + 1) dX4_readLine_126 rfl rfl (by decide) rfl rfl ?_
                refine zr_goto (pc := 129) hV 52 dX4_readLine_129 (by decide) ?_
                refine zr_sub (pc := 52) hV [some (ZR 132), some (ZR r25), some (ZI r120), some (ZI 0), some (ZI (x4_52 + 1)), none] (⟨rfl, rfl, rfl, rfl, rfl, trivial⟩) ?_
                exact ih52 r120 0 (x4_52 + 1) σ102 (by omega) (by omega) (by omega) hσ102 hFσ102 (by omega)
              · show V 112 [some (ZR 132), some (ZR r25), some (ZI x2_52), none, some (ZI x4_52), some (ZI r102)] [] 284 σ102
                refine zr_iconst (pc := 112) hV (-1) dX4_readLine_112 rfl ?_
                exact zr_iret (pc := 113) hV dX4_readLine_113 rfl rfl ⟨_, rfl, ⟨by decide, by decide⟩, hσ102, hFσ102, trivial⟩
            refine zr_if_ne (pc := 71) hV 88 dX4_readLine_71 (by decide) (by omega) (fun c10 => ?_) (fun c10 => ?_)
            · refine zr_sub (pc := 88) hV [some (ZR 132), some (ZR r25), some (ZI x2_52), none, some (ZI x4_52), none] (⟨rfl, rfl, rfl, rfl, trivial⟩) ?_
              exact J88 σ_52 hσ_52 hFσ_52
            · show V 74 [some (ZR 132), some (ZR r25), some (ZI x2_52), some (ZI x3_52), some (ZI x4_52), none] [] 284 σ_52
              refine zr_aload_n (pc := 74) hV dX4_readLine_74 rfl rfl ?_
              refine zr_getR (pc := 75) hV 0 1 dX4_readLine_75 fX4_15 rfl rfl (zc_k132 zc_s132) (zc_pos zc_s132 rfl) (zc_g132_0 hσ_52 zc_s132) (by decide) ?_
              refine zr_bipush (pc := 78) hV 44 dX4_readLine_78 (by decide) ?_
              refine zr_callVi (pc := 80) hV [ZI 44] (st := []) (c_X8_takes (σ := σ_52) hσ_52 44 (by omega)) dX4_readLine_80 mX4_27 (zc_k1 zc_s1) (zc_pos zc_s1 rfl) (by decide) (Nat.le_of_ble_eq_true rfl) (Nat.le_refl _) (fun r80 σ80 hr80 pσ80 => ?_)
              obtain ⟨hσ80, hfσ80, pσ80⟩ := pσ80
              have hFσ80 := zc_Fc hfσ80 rfl hFσ_52
              refine zr_if_ne (pc := 83) hV 88 dX4_readLine_83 (by decide) (by omega) (fun c11 => ?_) (fun c11 => ?_)
              · refine zr_sub (pc := 88) hV [some (ZR 132), some (ZR r25), some (ZI x2_52), none, some (ZI x4_52), none] (⟨rfl, rfl, rfl, rfl, trivial⟩) ?_
                exact J88 σ80 hσ80 hFσ80
              · show V 86 [some (ZR 132), some (ZR r25), some (ZI x2_52), some (ZI x3_52), some (ZI x4_52), none] [] 284 σ80
                refine zr_iconst (pc := 86) hV (-1) dX4_readLine_86 rfl ?_
                exact zr_iret (pc := 87) hV dX4_readLine_87 rfl rfl ⟨_, rfl, ⟨by decide, by decide⟩, hσ80, hFσ80, trivial⟩
          · show V 67 [some (ZR 132), some (ZR r25), some (ZI x2_52), some (ZI x3_52), some (ZI x4_52), none] [] 284 σ_52
            refine zr_goto (pc := 67) hV 126 dX4_readLine_67 (by decide) ?_
            show V 126 [some (ZR 132), some (ZR r25), some (ZI x2_52), some (ZI x3_52), some (ZI x4_52), none] [] 284 σ_52
            refine zr_iinc (pc := 126) hV [some (ZR 132), some (ZR r25), some (ZI x2_52), some (ZI x3_52), some (ZI (x4_52 + 1)), none] (x4_52 + 1) dX4_readLine_126 rfl rfl (by decide) rfl rfl ?_
            refine zr_goto (pc := 129) hV 52 dX4_readLine_129 (by decide) ?_
            exact ih52 x2_52 x3_52 (x4_52 + 1) σ_52 (by omega) (by omega) (by omega) hσ_52 hFσ_52 (by omega)
    exact L52 (4 - (0 : Int) + 1 : Int).toNat (σ19 r25 2) 1 0 σ19 (by omega) (by omega) (by omega) hσ19 hFσ19 (by omega)
set_option maxHeartbeats 800000 in
theorem c_X4_writeByte {σ : zq_S} (hσ : zc_T σ) (b : Int) (q0 : zq_in b) : zq_C zc_w yX4_writeByte cX4_writeByte 2 (none) 0 0 284 284 [ZR 132, ZI b] σ (zq_pv (fun τ => zc_T τ ∧ zc_Fr [(132, 3), (133, -1)] σ τ ∧ (True))) := by
  refine zq_C_of (by decide) (Nat.le_refl _) (Nat.le_of_ble_eq_true rfl) [some (ZR 132), some (ZI b)] rfl (fun V hV => ?_)
  have hFσ := zc_Fr_rf [(132, 3), (133, -1)] σ
  show V 0 [some (ZR 132), some (ZI b)] [] 284 σ
  refine zr_aload_n (pc := 0) hV dX4_writeByte_0 rfl rfl ?_
  refine zr_getI (pc := 1) hV 3 dX4_writeByte_1 fX4_154 rfl rfl (zc_k132 zc_s132) (zc_pos zc_s132 rfl) ?_
  have t1 := zc_g132_3 hσ zc_s132
  refine zr_bipush (pc := 4) hV 16 dX4_writeByte_4 (by decide) ?_
  refine zr_icmp_ge (pc := 6) hV 26 dX4_writeByte_6 (by decide) (by omega) ⟨by decide, by decide⟩ (fun c2 => ?_) (fun c2 => ?_)
  · show V 26 [some (ZR 132), some (ZI b)] [] 284 σ
    exact zr_vret (pc := 26) hV dX4_writeByte_26 rfl rfl ⟨rfl, hσ, hFσ, trivial⟩
  · show V 9 [some (ZR 132), some (ZI b)] [] 284 σ
    refine zr_aload_n (pc := 9) hV dX4_writeByte_9 rfl rfl ?_
    refine zr_getR (pc := 10) hV 2 133 dX4_writeByte_10 fX4_11 rfl rfl (zc_k132 zc_s132) (zc_pos zc_s132 rfl) (zc_g132_2 hσ zc_s132) (by decide) ?_
    refine zr_aload_n (pc := 13) hV dX4_writeByte_13 rfl rfl ?_
    refine zr_dup (pc := 14) hV dX4_writeByte_14 (fun _ => rfl) ?_
    refine zr_getI (pc := 15) hV 3 dX4_writeByte_15 fX4_154 rfl rfl (zc_k132 zc_s132) (zc_pos zc_s132 rfl) ?_
    have t3 := zc_g132_3 hσ zc_s132
    refine zr_dup_x1 (pc := 18) hV dX4_writeByte_18 (fun _ => rfl) (fun _ => rfl) ?_
    refine zr_iconst (pc := 19) hV 1 dX4_writeByte_19 rfl ?_
    refine zr_iadd (pc := 20) hV dX4_writeByte_20 ?_
    refine zr_putI (pc := 21) hV 3 dX4_writeByte_21 fX4_154 rfl rfl rfl (zc_k132 zc_s132) (zc_pos zc_s132 rfl) (fun σ21 eσ21 => ?_)
    have hσ21 : zc_T σ21 := zc_u132_3 eσ21 hσ zc_s132 (by omega)
    have hFσ21 := zc_Fw eσ21 zc_s132 rfl hFσ
    refine zr_iload_n (pc := 24) hV dX4_writeByte_24 rfl rfl ?_
    refine zr_iast (pc := 25) hV dX4_writeByte_25 (zc_k133 zc_s133) (zc_pos zc_s133 rfl) rfl (by omega) (fun σ25 eσ25 => ?_)
    have hσ25 : zc_T σ25 := zc_ua133 eσ25 hσ21 zc_s133 (by omega)
    have hFσ25 := zc_Fa eσ25 zc_s133 rfl hFσ21
    show V 26 [some (ZR 132), some (ZI b)] [] 284 σ25
    exact zr_vret (pc := 26) hV dX4_writeByte_26 rfl rfl ⟨rfl, hσ25, hFσ25, trivial⟩
set_option maxHeartbeats 800000 in
theorem c_X4_writeNumber {σ : zq_S} (hσ : zc_T σ) (number : Int) (q0 : zq_in number) : zq_C zc_w yX4_writeNumber cX4_writeNumber 2 (none) 1 21 284 284 [ZR 132, ZI number] σ (zq_pv (fun τ => zc_T τ ∧ zc_Fr [(132, 3), (133, -1)] σ τ ∧ (True))) := by
  refine zq_C_of (by decide) (Nat.le_refl _) (Nat.le_of_ble_eq_true rfl) [some (ZR 132), some (ZI number)] rfl (fun V hV => ?_)
  have hFσ := zc_Fr_rf [(132, 3), (133, -1)] σ
  show V 0 [some (ZR 132), some (ZI number)] [] 284 σ
  refine zr_iload_n (pc := 0) hV dX4_writeNumber_0 rfl rfl ?_
  refine zr_bipush (pc := 1) hV 100 dX4_writeNumber_1 (by decide) ?_
  have J17 : ∀ (σ_17 : zq_S), (zc_T σ_17) → (zc_Fr [(132, 3), (133, -1)] σ σ_17) → V 17 [some (ZR 132), some (ZI number)] [] 284 σ_17 := by
    intro σ_17 hσ_17 hFσ_17
    show V 17 [some (ZR 132), some (ZI number)] [] 284 σ_17
    refine zr_iload_n (pc := 17) hV dX4_writeNumber_17 rfl rfl ?_
    refine zr_bipush (pc := 18) hV 10 dX4_writeNumber_18 (by decide) ?_
    refine zr_icmp_lt (pc := 20) hV 37 dX4_writeNumber_20 (by decide) (by omega) ⟨by decide, by decide⟩ (fun c1 => ?_) (fun c1 => ?_)
    · show V 37 [some (ZR 132), some (ZI number)] [] 284 σ_17
      refine zr_aload_n (pc := 37) hV dX4_writeNumber_37 rfl rfl ?_
      refine zr_bipush (pc := 38) hV 48 dX4_writeNumber_38 (by decide) ?_
      refine zr_iload_n (pc := 40) hV dX4_writeNumber_40 rfl rfl ?_
      refine zr_bipush (pc := 41) hV 10 dX4_writeNumber_41 (by decide) ?_
      refine zr_irem (pc := 43) hV dX4_writeNumber_43 ⟨by decide, by decide⟩ (by omega) ?_
      have t2 := zq_rem_in number 10
      refine zr_iadd (pc := 44) hV dX4_writeNumber_44 ?_
      refine zr_any (pc := 45) hV (fun y45 hy45 _ => ?_)
      refine zr_callVv (pc := 45) hV [ZI y45] (st := []) (c_X4_writeByte (σ := σ_17) hσ_17 y45 (by omega)) dX4_writeNumber_45 mX4_157 (zc_k132 zc_s132) (zc_pos zc_s132 rfl) (by decide) (Nat.le_of_ble_eq_true rfl) (Nat.le_refl _) (fun σ45 pσ45 => ?_)
      obtain ⟨hσ45, hfσ45, pσ45⟩ := pσ45
      have hFσ45 := zc_Fc hfσ45 rfl hFσ_17
      exact zr_vret (pc := 48) hV dX4_writeNumber_48 rfl rfl ⟨rfl, hσ45, hFσ45, trivial⟩
    · show V 23 [some (ZR 132), some (ZI number)] [] 284 σ_17
      refine zr_aload_n (pc := 23) hV dX4_writeNumber_23 rfl rfl ?_
      refine zr_bipush (pc := 24) hV 48 dX4_writeNumber_24 (by decide) ?_
      refine zr_iload_n (pc := 26) hV dX4_writeNumber_26 rfl rfl ?_
      refine zr_bipush (pc := 27) hV 10 dX4_writeNumber_27 (by decide) ?_
      refine zr_idiv (pc := 29) hV dX4_writeNumber_29 ⟨by decide, by decide⟩ (by omega) ?_
      have t3 := zq_div_c (x := number) 10 (by decide) (by omega)
      refine zr_bipush (pc := 30) hV 10 dX4_writeNumber_30 (by decide) ?_
      refine zr_irem (pc := 32) hV dX4_writeNumber_32 ⟨by decide, by decide⟩ (by omega) ?_
      have t4 := zq_rem_c (x := zq_div number 10) 10 (by decide) (by omega)
      refine zr_iadd (pc := 33) hV dX4_writeNumber_33 ?_
      refine zr_callVv (pc := 34) hV [ZI (48 + (zq_rem (zq_div number 10) 10))] (st := []) (c_X4_writeByte (σ := σ_17) hσ_17 (48 + (zq_rem (zq_div number 10) 10)) (by omega)) dX4_writeNumber_34 mX4_157 (zc_k132 zc_s132) (zc_pos zc_s132 rfl) (by decide) (Nat.le_of_ble_eq_true rfl) (Nat.le_refl _) (fun σ34 pσ34 => ?_)
      obtain ⟨hσ34, hfσ34, pσ34⟩ := pσ34
      have hFσ34 := zc_Fc hfσ34 rfl hFσ_17
      show V 37 [some (ZR 132), some (ZI number)] [] 284 σ34
      refine zr_aload_n (pc := 37) hV dX4_writeNumber_37 rfl rfl ?_
      refine zr_bipush (pc := 38) hV 48 dX4_writeNumber_38 (by decide) ?_
      refine zr_iload_n (pc := 40) hV dX4_writeNumber_40 rfl rfl ?_
      refine zr_bipush (pc := 41) hV 10 dX4_writeNumber_41 (by decide) ?_
      refine zr_irem (pc := 43) hV dX4_writeNumber_43 ⟨by decide, by decide⟩ (by omega) ?_
      have t5 := zq_rem_c (x := number) 10 (by decide) (by omega)
      refine zr_iadd (pc := 44) hV dX4_writeNumber_44 ?_
      refine zr_callVv (pc := 45) hV [ZI (48 + (zq_rem number 10))] (st := []) (c_X4_writeByte (σ := σ34) hσ34 (48 + (zq_rem number 10)) (by omega)) dX4_writeNumber_45 mX4_157 (zc_k132 zc_s132) (zc_pos zc_s132 rfl) (by decide) (Nat.le_of_ble_eq_true rfl) (Nat.le_refl _) (fun σ45 pσ45 => ?_)
      obtain ⟨hσ45, hfσ45, pσ45⟩ := pσ45
      have hFσ45 := zc_Fc hfσ45 rfl hFσ34
      exact zr_vret (pc := 48) hV dX4_writeNumber_48 rfl rfl ⟨rfl, hσ45, hFσ45, trivial⟩
  refine zr_icmp_lt (pc := 3) hV 17 dX4_writeNumber_3 (by decide) (by omega) ⟨by decide, by decide⟩ (fun c6 => ?_) (fun c6 => ?_)
  · exact J17 σ hσ hFσ
  · show V 6 [some (ZR 132), some (ZI number)] [] 284 σ
    refine zr_aload_n (pc := 6) hV dX4_writeNumber_6 rfl rfl ?_
    refine zr_bipush (pc := 7) hV 48 dX4_writeNumber_7 (by decide) ?_
    refine zr_iload_n (pc := 9) hV dX4_writeNumber_9 rfl rfl ?_
    refine zr_bipush (pc := 10) hV 100 dX4_writeNumber_10 (by decide) ?_
    refine zr_idiv (pc := 12) hV dX4_writeNumber_12 ⟨by decide, by decide⟩ (by omega) ?_
    have t7 := zq_div_c (x := number) 100 (by decide) (by omega)
    refine zr_iadd (pc := 13) hV dX4_writeNumber_13 ?_
    refine zr_callVv (pc := 14) hV [ZI (48 + (zq_div number 100))] (st := []) (c_X4_writeByte (σ := σ) hσ (48 + (zq_div number 100)) (by omega)) dX4_writeNumber_14 mX4_157 (zc_k132 zc_s132) (zc_pos zc_s132 rfl) (by decide) (Nat.le_of_ble_eq_true rfl) (Nat.le_refl _) (fun σ14 pσ14 => ?_)
    obtain ⟨hσ14, hfσ14, pσ14⟩ := pσ14
    have hFσ14 := zc_Fc hfσ14 rfl hFσ
    exact J17 σ14 hσ14 hFσ14
set_option maxHeartbeats 800000 in
theorem c_X4_writeLine {σ : zq_S} (hσ : zc_T σ) (order : Int) (korder : zc_kd order = 4) (bits : Int) (q0 : zq_in bits) : zq_C zc_w yX4_writeLine cX4_writeLine 5 (none) 2 42 284 284 [ZR 132, ZR order, ZI bits] σ (zq_pv (fun τ => zc_T τ ∧ zc_Fr [(132, 3), (133, -1)] σ τ ∧ (True))) := by
  refine zq_C_of (by decide) (Nat.le_refl _) (Nat.le_of_ble_eq_true rfl) [some (ZR 132), some (ZR order), some (ZI bits), none, none] rfl (fun V hV => ?_)
  have poorder := zc_pos korder rfl
  have hFσ := zc_Fr_rf [(132, 3), (133, -1)] σ
  show V 0 [some (ZR 132), some (ZR order), some (ZI bits), none, none] [] 284 σ
  refine zr_aload_n (pc := 0) hV dX4_writeLine_0 rfl rfl ?_
  refine zr_iconst (pc := 1) hV 0 dX4_writeLine_1 rfl ?_
  refine zr_putI (pc := 2) hV 3 dX4_writeLine_2 fX4_154 rfl rfl rfl (zc_k132 zc_s132) (zc_pos zc_s132 rfl) (fun σ2 eσ2 => ?_)
  have hσ2 : zc_T σ2 := zc_u132_3 eσ2 hσ zc_s132 (by omega)
  have hFσ2 := zc_Fw eσ2 zc_s132 rfl hFσ
  refine zr_bipush (pc := 5) hV 16 dX4_writeLine_5 (by decide) ?_
  refine zr_istore_n (pc := 7) hV [some (ZR 132), some (ZR order), some (ZI bits), some (ZI 16), none] dX4_writeLine_7 rfl (by decide) rfl rfl ?_
  have L8 : ∀ (fuel : Nat) (x3_8 : Int) (σ_8 : zq_S), ((-8) ≤ x3_8 ∧ x3_8 ≤ 16) → (zc_T σ_8) → (zc_Fr [(132, 3), (133, -1)] σ σ_8) → x3_8 - (-8) < (fuel : Int) → V 8 [some (ZR 132), some (ZR order), some (ZI bits), some (ZI x3_8), none] [] 284 σ_8 := by
    intro fuel
    induction fuel with
    | zero =>
      intro x3_8 σ_8 hx3_8 hσ_8 hFσ_8 hm8
      exfalso; omega
    | succ fuel ih =>
      intro x3_8 σ_8 hx3_8 hσ_8 hFσ_8 hm8
      have ih8 := ih
      show V 8 [some (ZR 132), some (ZR order), some (ZI bits), some (ZI x3_8), none] [] 284 σ_8
      refine zr_iload_n (pc := 8) hV dX4_writeLine_8 rfl rfl ?_
      refine zr_if_lt (pc := 9) hV 41 dX4_writeLine_9 (by decide) (by omega) (fun c1 => ?_) (fun c1 => ?_)
      · show V 41 [some (ZR 132), some (ZR order), some (ZI bits), some (ZI x3_8), none] [] 284 σ_8
        refine zr_bipush (pc := 41) hV 32 dX4_writeLine_41 (by decide) ?_
        refine zr_istore_n (pc := 43) hV [some (ZR 132), some (ZR order), some (ZI bits), some (ZI 32), none] dX4_writeLine_43 rfl (by decide) rfl rfl ?_
        refine zr_iconst (pc := 44) hV 0 dX4_writeLine_44 rfl ?_
        refine zr_istore (pc := 45) hV [some (ZR 132), some (ZR order), some (ZI bits), some (ZI 32), some (ZI 0)] dX4_writeLine_45 (by decide) rfl rfl ?_
        have L47 : ∀ (fuel : Nat) (x3_47 : Int) (x4_47 : Int) (σ_47 : zq_S), (32 ≤ x3_47 ∧ x3_47 ≤ 2147483647) → (0 ≤ x4_47 ∧ x4_47 ≤ 4) → (zc_T σ_47) → (zc_Fr [(132, 3), (133, -1)] σ σ_47) → 4 - x4_47 < (fuel : Int) → V 47 [some (ZR 132), some (ZR order), some (ZI bits), some (ZI x3_47), some (ZI x4_47)] [] 284 σ_47 := by
          intro fuel
          induction fuel with
          | zero =>
            intro x3_47 x4_47 σ_47 hx3_47 hx4_47 hσ_47 hFσ_47 hm47
            exfalso; omega
          | succ fuel ih =>
            intro x3_47 x4_47 σ_47 hx3_47 hx4_47 hσ_47 hFσ_47 hm47
            have ih47 := ih
            show V 47 [some (ZR 132), some (ZR order), some (ZI bits), some (ZI x3_47), some (ZI x4_47)] [] 284 σ_47
            refine zr_iload (pc := 47) hV dX4_writeLine_47 rfl ?_
            refine zr_iconst (pc := 49) hV 3 dX4_writeLine_49 rfl ?_
            refine zr_icmp_gt (pc := 50) hV 87 dX4_writeLine_50 (by decide) (by omega) ⟨by decide, by decide⟩ (fun c2 => ?_) (fun c2 => ?_)
            · show V 87 [some (ZR 132), some (ZR order), some (ZI bits), some (ZI x3_47), some (ZI x4_47)] [] 284 σ_47
              exact zr_vret (pc := 87) hV dX4_writeLine_87 rfl rfl ⟨rfl, hσ_47, hFσ_47, trivial⟩
            · show V 53 [some (ZR 132), some (ZR order), some (ZI bits), some (ZI x3_47), some (ZI x4_47)] [] 284 σ_47
              refine zr_aload_n (pc := 53) hV dX4_writeLine_53 rfl rfl ?_
              refine zr_iload (pc := 54) hV dX4_writeLine_54 rfl ?_
              refine zr_callVp (pc := 56) hV [ZI x4_47] (st := []) (c_X3_hasField (σ := σ_47) hσ_47 order korder x4_47 (by omega)) dX4_writeLine_56 mX4_99 (zc_k4 korder) (zc_pos korder rfl) (by decide) (Nat.le_of_ble_eq_true rfl) (Nat.le_refl _) (fun r56 hr56 pr56 => ?_)
              refine zr_if_eq (pc := 59) hV 81 dX4_writeLine_59 (by decide) (by omega) (fun c3 => ?_) (fun c3 => ?_)
              · show V 81 [some (ZR 132), some (ZR order), some (ZI bits), some (ZI x3_47), some (ZI x4_47)] [] 284 σ_47
                refine zr_iinc (pc := 81) hV [some (ZR 132), some (ZR order), some (ZI bits), some (ZI x3_47), some (ZI (x4_47 + 1))] (x4_47 + 1) dX4_writeLine_81 rfl rfl (by decide) rfl rfl ?_
                refine zr_goto (pc := 84) hV 47 dX4_writeLine_84 (by decide) ?_
                exact ih47 x3_47 (x4_47 + 1) σ_47 (by omega) (by omega) hσ_47 hFσ_47 (by omega)
              · show V 62 [some (ZR 132), some (ZR order), some (ZI bits), some (ZI x3_47), some (ZI x4_47)] [] 284 σ_47
                refine zr_aload_n (pc := 62) hV dX4_writeLine_62 rfl rfl ?_
                refine zr_iload_n (pc := 63) hV dX4_writeLine_63 rfl rfl ?_
                refine zr_callVv (pc := 64) hV [ZI x3_47] (st := []) (c_X4_writeByte (σ := σ_47) hσ_47 x3_47 (by omega)) dX4_writeLine_64 mX4_157 (zc_k132 zc_s132) (zc_pos zc_s132 rfl) (by decide) (Nat.le_of_ble_eq_true rfl) (Nat.le_refl _) (fun σ64 pσ64 => ?_)
                obtain ⟨hσ64, hfσ64, pσ64⟩ := pσ64
                have hFσ64 := zc_Fc hfσ64 rfl hFσ_47
                refine zr_aload_n (pc := 67) hV dX4_writeLine_67 rfl rfl ?_
                refine zr_aload_n (pc := 68) hV dX4_writeLine_68 rfl rfl ?_
                refine zr_iload_n (pc := 69) hV dX4_writeLine_69 rfl rfl ?_
                refine zr_iload (pc := 70) hV dX4_writeLine_70 rfl ?_
                refine zr_callVp (pc := 72) hV [ZI bits, ZI x4_47] (st := [ZR 132]) (c_X3_fieldOf (σ := σ64) hσ64 order korder bits x4_47 (by omega) (by omega)) dX4_writeLine_72 mX4_161 (zc_k4 korder) (zc_pos korder rfl) (by decide) (Nat.le_of_ble_eq_true rfl) (Nat.le_refl _) (fun r72 hr72 pr72 => ?_)
                refine zr_callVv (pc := 75) hV [ZI r72] (st := []) (c_X4_writeNumber (σ := σ64) hσ64 r72 (by omega)) dX4_writeLine_75 mX4_165 (zc_k132 zc_s132) (zc_pos zc_s132 rfl) (by decide) (Nat.le_of_ble_eq_true rfl) (Nat.le_refl _) (fun σ75 pσ75 => ?_)
                obtain ⟨hσ75, hfσ75, pσ75⟩ := pσ75
                have hFσ75 := zc_Fc hfσ75 rfl hFσ64
                refine zr_bipush (pc := 78) hV 44 dX4_writeLine_78 (by decide) ?_
                refine zr_istore_n (pc := 80) hV [some (ZR 132), some (ZR order), some (ZI bits), some (ZI 44), some (ZI x4_47)] dX4_writeLine_80 rfl (by decide) rfl rfl ?_
                show V 81 [some (ZR 132), some (ZR order), some (ZI bits), some (ZI 44), some (ZI x4_47)] [] 284 σ75
                refine zr_iinc (pc := 81) hV [some (ZR 132), some (ZR order), some (ZI bits), some (ZI 44), some (ZI (x4_47 + 1))] (x4_47 + 1) dX4_writeLine_81 rfl rfl (by decide) rfl rfl ?_
                refine zr_goto (pc := 84) hV 47 dX4_writeLine_84 (by decide) ?_
                exact ih47 44 (x4_47 + 1) σ75 (by omega) (by omega) hσ75 hFσ75 (by omega)
        exact L47 (4 - (0 : Int) + 1 : Int).toNat 32 0 σ_8 (by omega) (by omega) hσ_8 hFσ_8 (by omega)
      · show V 12 [some (ZR 132), some (ZR order), some (ZI bits), some (ZI x3_8), none] [] 284 σ_8
        refine zr_aload_n (pc := 12) hV dX4_writeLine_12 rfl rfl ?_
        refine zr_getI (pc := 13) hV 0 dX4_writeLine_13 fX4_66 rfl rfl (zc_k4 korder) (zc_pos korder rfl) ?_
        have t4 := zc_g4_0 hσ_8 korder
        have t5 : σ_8 order 0 = σ order 0 := hFσ_8 _ _ (zc_out_at korder rfl)
        refine zr_iload_n (pc := 16) hV dX4_writeLine_16 rfl rfl ?_
        refine zr_ishr (pc := 17) hV dX4_writeLine_17 ?_
        have t6 := zq_shr_in (σ_8 order 0) x3_8
        refine zr_if_eq (pc := 18) hV 35 dX4_writeLine_18 (by decide) (by omega) (fun c7 => ?_) (fun c7 => ?_)
        · show V 35 [some (ZR 132), some (ZR order), some (ZI bits), some (ZI x3_8), none] [] 284 σ_8
          refine zr_iinc (pc := 35) hV [some (ZR 132), some (ZR order), some (ZI bits), some (ZI (x3_8 + (-8))), none] (x3_8 + (-8)) dX4_writeLine_35 rfl rfl (by decide) rfl rfl ?_
          refine zr_goto (pc := 38) hV 8 dX4_writeLine_38 (by decide) ?_
          exact ih8 (x3_8 + (-8)) σ_8 (by omega) hσ_8 hFσ_8 (by omega)
        · show V 21 [some (ZR 132), some (ZR order), some (ZI bits), some (ZI x3_8), none] [] 284 σ_8
          refine zr_aload_n (pc := 21) hV dX4_writeLine_21 rfl rfl ?_
          refine zr_aload_n (pc := 22) hV dX4_writeLine_22 rfl rfl ?_
          refine zr_getI (pc := 23) hV 0 dX4_writeLine_23 fX4_66 rfl rfl (zc_k4 korder) (zc_pos korder rfl) ?_
          have t8 := zc_g4_0 hσ_8 korder
          have t9 : σ_8 order 0 = σ order 0 := hFσ_8 _ _ (zc_out_at korder rfl)
          refine zr_iload_n (pc := 26) hV dX4_writeLine_26 rfl rfl ?_
          refine zr_ishr (pc := 27) hV dX4_writeLine_27 ?_
          have t10 := zq_shr_in (σ_8 order 0) x3_8
          refine zr_sipush (pc := 28) hV 255 dX4_writeLine_28 (by decide) ?_
          refine zr_iand (pc := 31) hV dX4_writeLine_31 ?_
          have t11 := zq_and_mask (zq_shr (σ_8 order 0) x3_8) 8 255 256 (by decide) (by decide) (by decide)
          have t12 := zc_g4_0 hσ_8 korder
          have t13 : σ_8 order 0 = σ order 0 := hFσ_8 _ _ (zc_out_at korder rfl)
          refine zr_callVv (pc := 32) hV [ZI (zq_and (zq_shr (σ_8 order 0) x3_8) 255)] (st := []) (c_X4_writeByte (σ := σ_8) hσ_8 (zq_and (zq_shr (σ_8 order 0) x3_8) 255) (by omega)) dX4_writeLine_32 mX4_157 (zc_k132 zc_s132) (zc_pos zc_s132 rfl) (by decide) (Nat.le_of_ble_eq_true rfl) (Nat.le_refl _) (fun σ32 pσ32 => ?_)
          obtain ⟨hσ32, hfσ32, pσ32⟩ := pσ32
          have hFσ32 := zc_Fc hfσ32 rfl hFσ_8
          show V 35 [some (ZR 132), some (ZR order), some (ZI bits), some (ZI x3_8), none] [] 284 σ32
          refine zr_iinc (pc := 35) hV [some (ZR 132), some (ZR order), some (ZI bits), some (ZI (x3_8 + (-8))), none] (x3_8 + (-8)) dX4_writeLine_35 rfl rfl (by decide) rfl rfl ?_
          refine zr_goto (pc := 38) hV 8 dX4_writeLine_38 (by decide) ?_
          exact ih8 (x3_8 + (-8)) σ32 (by omega) hσ32 hFσ32 (by omega)
  exact L8 ((16 : Int) - (-8) + 1 : Int).toNat 16 σ2 (by omega) hσ2 hFσ2 (by omega)
set_option maxHeartbeats 800000 in
theorem c_X4_byteAt {σ : zq_S} (hσ : zc_T σ) (k : Int) (q0 : zq_in k) : zq_C zc_w yX4_byteAt cX4_byteAt 2 (some .int) 0 0 284 284 [ZR 132, ZI k] σ (zq_pp σ (fun r => True)) := by
  refine zq_C_of (by decide) (Nat.le_refl _) (Nat.le_of_ble_eq_true rfl) [some (ZR 132), some (ZI k)] rfl (fun V hV => ?_)
  show V 0 [some (ZR 132), some (ZI k)] [] 284 σ
  refine zr_iload_n (pc := 0) hV dX4_byteAt_0 rfl rfl ?_
  refine zr_if_lt (pc := 1) hV 21 dX4_byteAt_1 (by decide) (by omega) (fun c1 => ?_) (fun c1 => ?_)
  · show V 21 [some (ZR 132), some (ZI k)] [] 284 σ
    refine zr_iconst (pc := 21) hV (-1) dX4_byteAt_21 rfl ?_
    show V 22 [some (ZR 132), some (ZI k)] [ZI (-1)] 284 σ
    exact zr_iret (pc := 22) hV dX4_byteAt_22 rfl rfl ⟨rfl, _, rfl, ⟨by decide, by decide⟩, trivial⟩
  · show V 4 [some (ZR 132), some (ZI k)] [] 284 σ
    refine zr_iload_n (pc := 4) hV dX4_byteAt_4 rfl rfl ?_
    refine zr_aload_n (pc := 5) hV dX4_byteAt_5 rfl rfl ?_
    refine zr_getI (pc := 6) hV 3 dX4_byteAt_6 fX4_154 rfl rfl (zc_k132 zc_s132) (zc_pos zc_s132 rfl) ?_
    have t2 := zc_g132_3 hσ zc_s132
    refine zr_icmp_ge (pc := 9) hV 21 dX4_byteAt_9 (by decide) (by omega) (by omega) (fun c3 => ?_) (fun c3 => ?_)
    · show V 21 [some (ZR 132), some (ZI k)] [] 284 σ
      refine zr_iconst (pc := 21) hV (-1) dX4_byteAt_21 rfl ?_
      show V 22 [some (ZR 132), some (ZI k)] [ZI (-1)] 284 σ
      exact zr_iret (pc := 22) hV dX4_byteAt_22 rfl rfl ⟨rfl, _, rfl, ⟨by decide, by decide⟩, trivial⟩
    · show V 12 [some (ZR 132), some (ZI k)] [] 284 σ
      refine zr_aload_n (pc := 12) hV dX4_byteAt_12 rfl rfl ?_
      refine zr_getR (pc := 13) hV 2 133 dX4_byteAt_13 fX4_11 rfl rfl (zc_k132 zc_s132) (zc_pos zc_s132 rfl) (zc_g132_2 hσ zc_s132) (by decide) ?_
      refine zr_iload_n (pc := 16) hV dX4_byteAt_16 rfl rfl ?_
      refine zr_iald (pc := 17) hV dX4_byteAt_17 (zc_k133 zc_s133) (zc_pos zc_s133 rfl) rfl (by omega) ?_
      have t4 := zc_ga133 hσ zc_s133 k
      refine zr_goto (pc := 18) hV 22 dX4_byteAt_18 (by decide) ?_
      show V 22 [some (ZR 132), some (ZI k)] [ZI (σ 133 k)] 284 σ
      exact zr_iret (pc := 22) hV dX4_byteAt_22 rfl rfl ⟨rfl, _, rfl, (by omega), trivial⟩
