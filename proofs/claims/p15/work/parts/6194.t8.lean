set_option maxHeartbeats 800000 in
theorem c_X12_fieldLetter2 {σ : zq_S} (c : Int) (q0 : zq_in c) : zq_C zx_w yX12_fieldLetter cX12_fieldLetter 1 (some .int) 0 0 41 41 [ZI c] σ (zq_pp σ (fun r => -1 ≤ r ∧ r ≤ 3 ∧ r = zt_fl c)) := by
  refine zq_C_of (by decide) (Nat.le_refl _) (Nat.le_of_ble_eq_true rfl) [some (ZI c)] rfl (fun V hV => ?_)
  show V 0 [some (ZI c)] [] 41 σ
  refine zr_iload_n (pc := 0) hV dX12_fieldLetter_0 rfl rfl ?_
  refine zr_bipush (pc := 1) hV 100 dX12_fieldLetter_1 (by decide) ?_
  refine zr_icmp_ne (pc := 3) hV 10 dX12_fieldLetter_3 (by decide) (by omega) ⟨by decide, by decide⟩ (fun c1 => ?_) (fun c1 => ?_)
  · show V 10 [some (ZI c)] [] 41 σ
    refine zr_iload_n (pc := 10) hV dX12_fieldLetter_10 rfl rfl ?_
    refine zr_bipush (pc := 11) hV 115 dX12_fieldLetter_11 (by decide) ?_
    refine zr_icmp_ne (pc := 13) hV 20 dX12_fieldLetter_13 (by decide) (by omega) ⟨by decide, by decide⟩ (fun c2 => ?_) (fun c2 => ?_)
    · show V 20 [some (ZI c)] [] 41 σ
      refine zr_iload_n (pc := 20) hV dX12_fieldLetter_20 rfl rfl ?_
      refine zr_bipush (pc := 21) hV 116 dX12_fieldLetter_21 (by decide) ?_
      refine zr_icmp_ne (pc := 23) hV 30 dX12_fieldLetter_23 (by decide) (by omega) ⟨by decide, by decide⟩ (fun c3 => ?_) (fun c3 => ?_)
      · show V 30 [some (ZI c)] [] 41 σ
        refine zr_iload_n (pc := 30) hV dX12_fieldLetter_30 rfl rfl ?_
        refine zr_bipush (pc := 31) hV 105 dX12_fieldLetter_31 (by decide) ?_
        refine zr_icmp_ne (pc := 33) hV 40 dX12_fieldLetter_33 (by decide) (by omega) ⟨by decide, by decide⟩ (fun c4 => ?_) (fun c4 => ?_)
        · show V 40 [some (ZI c)] [] 41 σ
          refine zr_iconst (pc := 40) hV (-1) dX12_fieldLetter_40 rfl ?_
          show V 41 [some (ZI c)] [ZI (-1)] 41 σ
          exact zr_iret (pc := 41) hV dX12_fieldLetter_41 rfl rfl ⟨rfl, _, rfl, ⟨by decide, by decide⟩, ⟨by omega, by omega, (by unfold zt_fl; repeat (first | rw [if_pos (by omega)] | rw [if_neg (by omega)]); all_goals omega)⟩⟩
        · show V 36 [some (ZI c)] [] 41 σ
          refine zr_iconst (pc := 36) hV 3 dX12_fieldLetter_36 rfl ?_
          refine zr_goto (pc := 37) hV 41 dX12_fieldLetter_37 (by decide) ?_
          show V 41 [some (ZI c)] [ZI 3] 41 σ
          exact zr_iret (pc := 41) hV dX12_fieldLetter_41 rfl rfl ⟨rfl, _, rfl, ⟨by decide, by decide⟩, ⟨by omega, by omega, (by unfold zt_fl; repeat (first | rw [if_pos (by omega)] | rw [if_neg (by omega)]); all_goals omega)⟩⟩
      · show V 26 [some (ZI c)] [] 41 σ
        refine zr_iconst (pc := 26) hV 2 dX12_fieldLetter_26 rfl ?_
        refine zr_goto (pc := 27) hV 41 dX12_fieldLetter_27 (by decide) ?_
        show V 41 [some (ZI c)] [ZI 2] 41 σ
        exact zr_iret (pc := 41) hV dX12_fieldLetter_41 rfl rfl ⟨rfl, _, rfl, ⟨by decide, by decide⟩, ⟨by omega, by omega, (by unfold zt_fl; repeat (first | rw [if_pos (by omega)] | rw [if_neg (by omega)]); all_goals omega)⟩⟩
    · show V 16 [some (ZI c)] [] 41 σ
      refine zr_iconst (pc := 16) hV 1 dX12_fieldLetter_16 rfl ?_
      refine zr_goto (pc := 17) hV 41 dX12_fieldLetter_17 (by decide) ?_
      show V 41 [some (ZI c)] [ZI 1] 41 σ
      exact zr_iret (pc := 41) hV dX12_fieldLetter_41 rfl rfl ⟨rfl, _, rfl, ⟨by decide, by decide⟩, ⟨by omega, by omega, (by unfold zt_fl; repeat (first | rw [if_pos (by omega)] | rw [if_neg (by omega)]); all_goals omega)⟩⟩
  · show V 6 [some (ZI c)] [] 41 σ
    refine zr_iconst (pc := 6) hV 0 dX12_fieldLetter_6 rfl ?_
    refine zr_goto (pc := 7) hV 41 dX12_fieldLetter_7 (by decide) ?_
    show V 41 [some (ZI c)] [ZI 0] 41 σ
    exact zr_iret (pc := 41) hV dX12_fieldLetter_41 rfl rfl ⟨rfl, _, rfl, ⟨by decide, by decide⟩, ⟨by omega, by omega, (by unfold zt_fl; repeat (first | rw [if_pos (by omega)] | rw [if_neg (by omega)]); all_goals omega)⟩⟩
set_option maxHeartbeats 800000 in
theorem c_X12_signOf2 {σ : zq_S} (c : Int) (q0 : zq_in c) : zq_C zx_w yX12_signOf cX12_signOf 1 (some .int) 0 0 41 41 [ZI c] σ (zq_pp σ (fun r => 0 ≤ r ∧ r ≤ 6 ∧ r = zt_sn c)) := by
  refine zq_C_of (by decide) (Nat.le_refl _) (Nat.le_of_ble_eq_true rfl) [some (ZI c)] rfl (fun V hV => ?_)
  show V 0 [some (ZI c)] [] 41 σ
  refine zr_iload_n (pc := 0) hV dX12_signOf_0 rfl rfl ?_
  refine zr_bipush (pc := 1) hV 43 dX12_signOf_1 (by decide) ?_
  refine zr_icmp_ne (pc := 3) hV 10 dX12_signOf_3 (by decide) (by omega) ⟨by decide, by decide⟩ (fun c1 => ?_) (fun c1 => ?_)
  · show V 10 [some (ZI c)] [] 41 σ
    refine zr_iload_n (pc := 10) hV dX12_signOf_10 rfl rfl ?_
    refine zr_bipush (pc := 11) hV 45 dX12_signOf_11 (by decide) ?_
    refine zr_icmp_ne (pc := 13) hV 20 dX12_signOf_13 (by decide) (by omega) ⟨by decide, by decide⟩ (fun c2 => ?_) (fun c2 => ?_)
    · show V 20 [some (ZI c)] [] 41 σ
      refine zr_iload_n (pc := 20) hV dX12_signOf_20 rfl rfl ?_
      refine zr_bipush (pc := 21) hV 38 dX12_signOf_21 (by decide) ?_
      refine zr_icmp_ne (pc := 23) hV 30 dX12_signOf_23 (by decide) (by omega) ⟨by decide, by decide⟩ (fun c3 => ?_) (fun c3 => ?_)
      · show V 30 [some (ZI c)] [] 41 σ
        refine zr_iload_n (pc := 30) hV dX12_signOf_30 rfl rfl ?_
        refine zr_bipush (pc := 31) hV 124 dX12_signOf_31 (by decide) ?_
        refine zr_icmp_ne (pc := 33) hV 40 dX12_signOf_33 (by decide) (by omega) ⟨by decide, by decide⟩ (fun c4 => ?_) (fun c4 => ?_)
        · show V 40 [some (ZI c)] [] 41 σ
          refine zr_iload_n (pc := 40) hV dX12_signOf_40 rfl rfl ?_
          refine zr_bipush (pc := 41) hV 94 dX12_signOf_41 (by decide) ?_
          refine zr_icmp_ne (pc := 43) hV 50 dX12_signOf_43 (by decide) (by omega) ⟨by decide, by decide⟩ (fun c5 => ?_) (fun c5 => ?_)
          · show V 50 [some (ZI c)] [] 41 σ
            refine zr_iload_n (pc := 50) hV dX12_signOf_50 rfl rfl ?_
            refine zr_bipush (pc := 51) hV 60 dX12_signOf_51 (by decide) ?_
            refine zr_icmp_ne (pc := 53) hV 61 dX12_signOf_53 (by decide) (by omega) ⟨by decide, by decide⟩ (fun c6 => ?_) (fun c6 => ?_)
            · show V 61 [some (ZI c)] [] 41 σ
              refine zr_iconst (pc := 61) hV 0 dX12_signOf_61 rfl ?_
              show V 62 [some (ZI c)] [ZI 0] 41 σ
              exact zr_iret (pc := 62) hV dX12_signOf_62 rfl rfl ⟨rfl, _, rfl, ⟨by decide, by decide⟩, ⟨by omega, by omega, (by unfold zt_sn; repeat (first | rw [if_pos (by omega)] | rw [if_neg (by omega)]); all_goals omega)⟩⟩
            · show V 56 [some (ZI c)] [] 41 σ
              refine zr_bipush (pc := 56) hV 6 dX12_signOf_56 (by decide) ?_
              refine zr_goto (pc := 58) hV 62 dX12_signOf_58 (by decide) ?_
              show V 62 [some (ZI c)] [ZI 6] 41 σ
              exact zr_iret (pc := 62) hV dX12_signOf_62 rfl rfl ⟨rfl, _, rfl, ⟨by decide, by decide⟩, ⟨by omega, by omega, (by unfold zt_sn; repeat (first | rw [if_pos (by omega)] | rw [if_neg (by omega)]); all_goals omega)⟩⟩
          · show V 46 [some (ZI c)] [] 41 σ
            refine zr_iconst (pc := 46) hV 5 dX12_signOf_46 rfl ?_
            refine zr_goto (pc := 47) hV 62 dX12_signOf_47 (by decide) ?_
            show V 62 [some (ZI c)] [ZI 5] 41 σ
            exact zr_iret (pc := 62) hV dX12_signOf_62 rfl rfl ⟨rfl, _, rfl, ⟨by decide, by decide⟩, ⟨by omega, by omega, (by unfold zt_sn; repeat (first | rw [if_pos (by omega)] | rw [if_neg (by omega)]); all_goals omega)⟩⟩
        · show V 36 [some (ZI c)] [] 41 σ
          refine zr_iconst (pc := 36) hV 4 dX12_signOf_36 rfl ?_
          refine zr_goto (pc := 37) hV 62 dX12_signOf_37 (by decide) ?_
          show V 62 [some (ZI c)] [ZI 4] 41 σ
          exact zr_iret (pc := 62) hV dX12_signOf_62 rfl rfl ⟨rfl, _, rfl, ⟨by decide, by decide⟩, ⟨by omega, by omega, (by unfold zt_sn; repeat (first | rw [if_pos (by omega)] | rw [if_neg (by omega)]); all_goals omega)⟩⟩
      · show V 26 [some (ZI c)] [] 41 σ
        refine zr_iconst (pc := 26) hV 3 dX12_signOf_26 rfl ?_
        refine zr_goto (pc := 27) hV 62 dX12_signOf_27 (by decide) ?_
        show V 62 [some (ZI c)] [ZI 3] 41 σ
        exact zr_iret (pc := 62) hV dX12_signOf_62 rfl rfl ⟨rfl, _, rfl, ⟨by decide, by decide⟩, ⟨by omega, by omega, (by unfold zt_sn; repeat (first | rw [if_pos (by omega)] | rw [if_neg (by omega)]); all_goals omega)⟩⟩
    · show V 16 [some (ZI c)] [] 41 σ
      refine zr_iconst (pc := 16) hV 2 dX12_signOf_16 rfl ?_
      refine zr_goto (pc := 17) hV 62 dX12_signOf_17 (by decide) ?_
      show V 62 [some (ZI c)] [ZI 2] 41 σ
      exact zr_iret (pc := 62) hV dX12_signOf_62 rfl rfl ⟨rfl, _, rfl, ⟨by decide, by decide⟩, ⟨by omega, by omega, (by unfold zt_sn; repeat (first | rw [if_pos (by omega)] | rw [if_neg (by omega)]); all_goals omega)⟩⟩
  · show V 6 [some (ZI c)] [] 41 σ
    refine zr_iconst (pc := 6) hV 1 dX12_signOf_6 rfl ?_
    refine zr_goto (pc := 7) hV 62 dX12_signOf_7 (by decide) ?_
    show V 62 [some (ZI c)] [ZI 1] 41 σ
    exact zr_iret (pc := 62) hV dX12_signOf_62 rfl rfl ⟨rfl, _, rfl, ⟨by decide, by decide⟩, ⟨by omega, by omega, (by unfold zt_sn; repeat (first | rw [if_pos (by omega)] | rw [if_neg (by omega)]); all_goals omega)⟩⟩
set_option maxHeartbeats 800000 in
theorem c_X12_readField2 {σ : zq_S} (hσ : zx_T σ) (o : Int) (q0 : 0 ≤ o ∧ o ≤ 20) : zq_C zx_w yX12_readField cX12_readField 3 (some .int) 2 46 41 41 [ZR 0, ZI o] σ (zq_pi (fun r τ => zx_T τ ∧ (∀ a i : Int, (¬ (a = 0 ∧ i = 15)) → τ a i = σ a i) ∧ (-1 ≤ r ∧ r ≤ 3 ∧ r = zt_fi (zt_Hr σ o) (zt_nx (σ 10) (σ 0 14) (σ 0 15)) ∧ (r = -1 → τ 0 15 = (zt_sk (σ 10) (σ 0 14) (σ 0 15))) ∧ (r ≠ -1 → τ 0 15 = (zt_sk (σ 10) (σ 0 14) (σ 0 15)) + 1)))) := by
  refine zq_C_of (by decide) (Nat.le_refl _) (Nat.le_of_ble_eq_true rfl) [some (ZR 0), some (ZI o), none] rfl (fun V hV => ?_)
  have z14 := zx_g14 hσ
  show V 0 [some (ZR 0), some (ZI o), none] [] 41 σ
  refine zr_aload_n (pc := 0) hV dX12_readField_0 rfl rfl ?_
  refine zr_callVi (pc := 1) hV [] (st := []) (c_X12_next2 (σ := σ) hσ ) dX12_readField_1 mX12_203 rfl (by decide) (by decide) (Nat.le_of_ble_eq_true rfl) (Nat.le_refl _) (fun r1 σ1 hr1 pσ1 => ?_)
  obtain ⟨hσ1, hfσ1, pσ1⟩ := pσ1
  have hFσ1 : ∀ a i : Int, (¬ (a = 0 ∧ i = 15)) → σ1 a i = σ a i := fun a i h => (hfσ1 a i h)
  have t1 := zx_g14 hσ
  have t2 := zx_g15 hσ
  have t3 := zx_g15 hσ1
  refine zr_callSp (pc := 4) hV [ZI r1] (st := []) (c_X12_fieldLetter2 (σ := σ1) r1 (by omega)) dX12_readField_4 mX12_225 (by decide) (Nat.le_of_ble_eq_true rfl) (Nat.le_refl _) (fun r4 hr4 pr4 => ?_)
  refine zr_istore_n (pc := 7) hV [some (ZR 0), some (ZI o), some (ZI r4)] dX12_readField_7 rfl (by decide) rfl rfl ?_
  refine zr_iload_n (pc := 8) hV dX12_readField_8 rfl rfl ?_
  refine zr_if_lt (pc := 9) hV 21 dX12_readField_9 (by decide) (by omega) (fun c4 => ?_) (fun c4 => ?_)
  · show V 21 [some (ZR 0), some (ZI o), some (ZI r4)] [] 41 σ1
    refine zr_iconst (pc := 21) hV (-1) dX12_readField_21 rfl ?_
    have t5 := zx_g15 hσ1
    exact zr_iret (pc := 22) hV dX12_readField_22 rfl rfl ⟨_, rfl, ⟨by decide, by decide⟩, hσ1, hFσ1, ⟨by omega, by omega, by rw [← (show r1 = zt_nx (σ 10) (σ 0 14) (σ 0 15) by omega), zt_fi_n (fun q => by first | exact absurd q.1 (by omega) | exact zt_Hr_n (by rw [← pr4.2.2]; omega) q.2)], fun _ => by omega, fun h => absurd rfl h⟩⟩
  · show V 12 [some (ZR 0), some (ZI o), some (ZI r4)] [] 41 σ1
    refine zr_aload_n (pc := 12) hV dX12_readField_12 rfl rfl ?_
    refine zr_iload_n (pc := 13) hV dX12_readField_13 rfl rfl ?_
    refine zr_iload_n (pc := 14) hV dX12_readField_14 rfl rfl ?_
    refine zr_callVp (pc := 15) hV [ZI o, ZI r4] (st := []) (c_X12_hasField (σ := σ1) hσ1 o r4 (by omega) (by omega)) dX12_readField_15 mX12_188 rfl (by decide) (by decide) (Nat.le_of_ble_eq_true rfl) (Nat.le_refl _) (fun r15 hr15 pr15 => ?_)
    have t6 := zx_g2 hσ1
    have t7 : σ1 0 2 = σ 0 2 := hfσ1 _ _ (by omega)
    have zc : zx_cnt σ1 o r4 (σ1 0 2) = zx_cnt σ o r4 (σ 0 2) := by rw [hfσ1 0 2 (by omega)]; exact zx_cnt_fr (fun i => hfσ1 2 i (by omega)) o r4 _
    refine zr_if_ne (pc := 18) hV 23 dX12_readField_18 (by decide) (by omega) (fun c8 => ?_) (fun c8 => ?_)
    · show V 23 [some (ZR 0), some (ZI o), some (ZI r4)] [] 41 σ1
      have zi := zt_nx_in (t := σ 10) (n := σ 0 14) (a := σ 0 15) (by have := zt_fl_b r1; omega)
      refine zr_aload_n (pc := 23) hV dX12_readField_23 rfl rfl ?_
      refine zr_dup (pc := 24) hV dX12_readField_24 (fun _ => rfl) ?_
      refine zr_getI (pc := 25) hV 15 dX12_readField_25 fX12_200 rfl rfl rfl (by decide) ?_
      have t9 := zx_g15 hσ1
      refine zr_iconst (pc := 28) hV 1 dX12_readField_28 rfl ?_
      refine zr_iadd (pc := 29) hV dX12_readField_29 ?_
      refine zr_putI (pc := 30) hV 15 dX12_readField_30 fX12_200 rfl rfl rfl rfl (by decide) (fun σ30 eσ30 => ?_)
      have hσ30 : zx_T σ30 := zx_u15 eσ30 hσ1 (by omega)
      have hFσ30 : ∀ a i : Int, (¬ (a = 0 ∧ i = 15)) → σ30 a i = σ a i := fun a i h => by rw [eσ30, zq_up_ne h]; exact hFσ1 a i h
      refine zr_iload_n (pc := 33) hV dX12_readField_33 rfl rfl ?_
      have t10 := zx_g15 hσ30
      have t11 : σ30 0 15 = (σ1 0 15) + 1 := by rw [eσ30]; exact zq_up_same _ _ _ _
      exact zr_iret (pc := 34) hV dX12_readField_34 rfl rfl ⟨_, rfl, (by omega), hσ30, hFσ30, ⟨by omega, by omega, by rw [← (show r1 = zt_nx (σ 10) (σ 0 14) (σ 0 15) by omega), zt_fi_y ⟨by omega, by rw [← pr4.2.2]; exact zt_Hr_y (by omega) (by omega) (by omega)⟩]; omega, fun h => absurd h (by omega), fun _ => by omega⟩⟩
    · show V 21 [some (ZR 0), some (ZI o), some (ZI r4)] [] 41 σ1
      refine zr_iconst (pc := 21) hV (-1) dX12_readField_21 rfl ?_
      have t12 := zx_g15 hσ1
      exact zr_iret (pc := 22) hV dX12_readField_22 rfl rfl ⟨_, rfl, ⟨by decide, by decide⟩, hσ1, hFσ1, ⟨by omega, by omega, by rw [← (show r1 = zt_nx (σ 10) (σ 0 14) (σ 0 15) by omega), zt_fi_n (fun q => by first | exact absurd q.1 (by omega) | exact zt_Hr_n (by rw [← pr4.2.2]; omega) q.2)], fun _ => by omega, fun h => absurd rfl h⟩⟩
set_option maxHeartbeats 800000 in
theorem c_X12_readNamedT {σ : zq_S} (hσ : zx_T σ) (o isTarget : Int) (q0 : 0 ≤ o ∧ o ≤ 20) (q1 : isTarget = 1) : zq_C zx_w yX12_readNamed cX12_readNamed 5 (some .int) 3 68 41 41 [ZR 0, ZI o, ZI isTarget] σ (zq_pi (fun r τ => zx_T τ ∧ (∀ a i : Int, (¬ (a = 0 ∧ i = 15) ∧ ¬ (a = 0 ∧ i = 17)) → τ a i = σ a i) ∧ (-1 ≤ r ∧ r ≤ 9 ∧ r = zt_tgR (zt_Hr σ o) (σ 10) (σ 0 14) (σ 0 15) ∧ τ 0 15 = zt_tgA (zt_Hr σ o) (σ 10) (σ 0 14) (σ 0 15)))) := by
  refine zq_C_of (by decide) (Nat.le_refl _) (Nat.le_of_ble_eq_true rfl) [some (ZR 0), some (ZI o), some (ZI isTarget), none, none] rfl (fun V hV => ?_)
  have z14 := zx_g14 hσ
  show V 0 [some (ZR 0), some (ZI o), some (ZI isTarget), none, none] [] 41 σ
  refine zr_aload_n (pc := 0) hV dX12_readNamed_0 rfl rfl ?_
  refine zr_callVi (pc := 1) hV [] (st := []) (c_X12_next2 (σ := σ) hσ ) dX12_readNamed_1 mX12_203 rfl (by decide) (by decide) (Nat.le_of_ble_eq_true rfl) (Nat.le_refl _) (fun r1 σ1 hr1 pσ1 => ?_)
  obtain ⟨hσ1, hfσ1, pσ1⟩ := pσ1
  have hFσ1 : ∀ a i : Int, (¬ (a = 0 ∧ i = 15) ∧ ¬ (a = 0 ∧ i = 17)) → σ1 a i = σ a i := fun a i h => (hfσ1 a i h.1)
  have t1 := zx_g14 hσ
  have t2 := zx_g15 hσ
  have t3 := zx_g15 hσ1
  have n1 : (zt_nx (σ 10) (σ 0 14) (σ 0 15)) = 122 → zt_ns (zt_Hr σ o) (zt_nx (σ 10) (σ 0 14) (σ 0 15)) = 4 := fun h => zt_ns_z _ h
  have n2 : (zt_nx (σ 10) (σ 0 14) (σ 0 15)) = 112 → zt_ns (zt_Hr σ o) (zt_nx (σ 10) (σ 0 14) (σ 0 15)) = 5 := fun h => zt_ns_p _ h
  have n3 : (zt_nx (σ 10) (σ 0 14) (σ 0 15)) ≠ 122 → (zt_nx (σ 10) (σ 0 14) (σ 0 15)) ≠ 112 → zt_ns (zt_Hr σ o) (zt_nx (σ 10) (σ 0 14) (σ 0 15)) = zt_fi (zt_Hr σ o) (zt_nx (σ 10) (σ 0 14) (σ 0 15)) := fun h k => zt_ns_f _ h k
  have n4 := zt_fi_b (zt_Hr σ o) (zt_nx (σ 10) (σ 0 14) (σ 0 15))
  have n5 : zt_fl (zt_nx (σ 10) (σ 0 14) (σ 0 15)) < 0 → zt_fi (zt_Hr σ o) (zt_nx (σ 10) (σ 0 14) (σ 0 15)) = -1 := fun h => zt_fi_n (fun q => absurd q.1 (by omega))
  have n6 := zt_fl_b (zt_nx (σ 10) (σ 0 14) (σ 0 15))
  have n7 : zt_fi (zt_Hr σ o) (zt_nx (σ 10) (σ 0 14) (σ 0 15)) = -1 ∨ zt_fi (zt_Hr σ o) (zt_nx (σ 10) (σ 0 14) (σ 0 15)) = zt_fl (zt_nx (σ 10) (σ 0 14) (σ 0 15)) := by unfold zt_fi; split <;> simp
  refine zr_istore_n (pc := 4) hV [some (ZR 0), some (ZI o), some (ZI isTarget), some (ZI r1), none] dX12_readNamed_4 rfl (by decide) rfl rfl ?_
  refine zr_aload_n (pc := 5) hV dX12_readNamed_5 rfl rfl ?_
  refine zr_iconst (pc := 6) hV 0 dX12_readNamed_6 rfl ?_
  refine zr_putI (pc := 7) hV 17 dX12_readNamed_7 fX12_228 rfl rfl rfl rfl (by decide) (fun σ7 eσ7 => ?_)
  have hσ7 : zx_T σ7 := zx_u17 eσ7 hσ1 (by omega)
  have hFσ7 : ∀ a i : Int, (¬ (a = 0 ∧ i = 15) ∧ ¬ (a = 0 ∧ i = 17)) → σ7 a i = σ a i := fun a i h => by rw [eσ7, zq_up_ne h.2]; exact hFσ1 a i h
  refine zr_iload_n (pc := 10) hV dX12_readNamed_10 rfl rfl ?_
  refine zr_bipush (pc := 11) hV 122 dX12_readNamed_11 (by decide) ?_
  refine zr_icmp_eq (pc := 13) hV 22 dX12_readNamed_13 (by decide) (by omega) ⟨by decide, by decide⟩ (fun c4 => ?_) (fun c4 => ?_)
  · show V 22 [some (ZR 0), some (ZI o), some (ZI isTarget), some (ZI r1), none] [] 41 σ7
    have zi := zt_nx_in (t := σ 10) (n := σ 0 14) (a := σ 0 15) (by omega)
    refine zr_aload_n (pc := 22) hV dX12_readNamed_22 rfl rfl ?_
    refine zr_dup (pc := 23) hV dX12_readNamed_23 (fun _ => rfl) ?_
    refine zr_getI (pc := 24) hV 15 dX12_readNamed_24 fX12_200 rfl rfl rfl (by decide) ?_
    have t5 := zx_g15 hσ7
    have t6 : σ7 0 15 = σ1 0 15 := by rw [eσ7]; exact zq_up_ne (by omega)
    refine zr_iconst (pc := 27) hV 1 dX12_readNamed_27 rfl ?_
    refine zr_iadd (pc := 28) hV dX12_readNamed_28 ?_
    refine zr_putI (pc := 29) hV 15 dX12_readNamed_29 fX12_200 rfl rfl rfl rfl (by decide) (fun σ29 eσ29 => ?_)
    have hσ29 : zx_T σ29 := zx_u15 eσ29 hσ7 (by omega)
    have hFσ29 : ∀ a i : Int, (¬ (a = 0 ∧ i = 15) ∧ ¬ (a = 0 ∧ i = 17)) → σ29 a i = σ a i := fun a i h => by rw [eσ29, zq_up_ne h.1]; exact hFσ7 a i h
    refine zr_iload_n (pc := 32) hV dX12_readNamed_32 rfl rfl ?_
    refine zr_bipush (pc := 33) hV 122 dX12_readNamed_33 (by decide) ?_
    refine zr_icmp_ne (pc := 35) hV 42 dX12_readNamed_35 (by decide) (by omega) ⟨by decide, by decide⟩ (fun c7 => ?_) (fun c7 => ?_)
    · exfalso; omega
    · show V 38 [some (ZR 0), some (ZI o), some (ZI isTarget), some (ZI r1), none] [] 41 σ29
      refine zr_iconst (pc := 38) hV 4 dX12_readNamed_38 rfl ?_
      refine zr_goto (pc := 39) hV 43 dX12_readNamed_39 (by decide) ?_
      show V 43 [some (ZR 0), some (ZI o), some (ZI isTarget), some (ZI r1), none] [ZI 4] 41 σ29
      have t8 := zx_g15 hσ29
      have t9 : σ29 0 15 = (σ7 0 15) + 1 := by rw [eσ29]; exact zq_up_same _ _ _ _
      exact zr_iret (pc := 43) hV dX12_readNamed_43 rfl rfl ⟨_, rfl, ⟨by decide, by decide⟩, hσ29, hFσ29, ⟨by omega, by omega, (by unfold zt_tgR; repeat (first | rw [if_pos (by omega)] | rw [if_neg (by omega)]); all_goals omega), (by unfold zt_tgA; repeat (first | rw [if_pos (by omega)] | rw [if_neg (by omega)]); all_goals omega)⟩⟩
  · show V 16 [some (ZR 0), some (ZI o), some (ZI isTarget), some (ZI r1), none] [] 41 σ7
    refine zr_iload_n (pc := 16) hV dX12_readNamed_16 rfl rfl ?_
    refine zr_bipush (pc := 17) hV 112 dX12_readNamed_17 (by decide) ?_
    refine zr_icmp_ne (pc := 19) hV 44 dX12_readNamed_19 (by decide) (by omega) ⟨by decide, by decide⟩ (fun c10 => ?_) (fun c10 => ?_)
    · show V 44 [some (ZR 0), some (ZI o), some (ZI isTarget), some (ZI r1), none] [] 41 σ7
      refine zr_iload_n (pc := 44) hV dX12_readNamed_44 rfl rfl ?_
      refine zr_bipush (pc := 45) hV 91 dX12_readNamed_45 (by decide) ?_
      refine zr_icmp_ne (pc := 47) hV 91 dX12_readNamed_47 (by decide) (by omega) ⟨by decide, by decide⟩ (fun c11 => ?_) (fun c11 => ?_)
      · show V 91 [some (ZR 0), some (ZI o), some (ZI isTarget), some (ZI r1), none] [] 41 σ7
        refine zr_iload_n (pc := 91) hV dX12_readNamed_91 rfl rfl ?_
        refine zr_callSp (pc := 92) hV [ZI r1] (st := []) (c_X12_fieldLetter2 (σ := σ7) r1 (by omega)) dX12_readNamed_92 mX12_225 (by decide) (Nat.le_of_ble_eq_true rfl) (Nat.le_refl _) (fun r92 hr92 pr92 => ?_)
        have z92 : r92 = zt_fl (zt_nx (σ 10) (σ 0 14) (σ 0 15)) := by rw [← (show r1 = (zt_nx (σ 10) (σ 0 14) (σ 0 15)) by omega)]; omega
        refine zr_if_lt (pc := 95) hV 118 dX12_readNamed_95 (by decide) (by omega) (fun c12 => ?_) (fun c12 => ?_)
        · show V 118 [some (ZR 0), some (ZI o), some (ZI isTarget), some (ZI r1), none] [] 41 σ7
          refine zr_iload_n (pc := 118) hV dX12_readNamed_118 rfl rfl ?_
          refine zr_if_ne (pc := 119) hV 136 dX12_readNamed_119 (by decide) (by omega) (fun c13 => ?_) (fun c13 => ?_)
          · show V 136 [some (ZR 0), some (ZI o), some (ZI isTarget), some (ZI r1), none] [] 41 σ7
            refine zr_iconst (pc := 136) hV (-1) dX12_readNamed_136 rfl ?_
            have t14 := zx_g15 hσ7
            have t15 : σ7 0 15 = σ1 0 15 := by rw [eσ7]; exact zq_up_ne (by omega)
            exact zr_iret (pc := 137) hV dX12_readNamed_137 rfl rfl ⟨_, rfl, ⟨by decide, by decide⟩, hσ7, hFσ7, ⟨by omega, by omega, (by unfold zt_tgR; repeat (first | rw [if_pos (by omega)] | rw [if_neg (by omega)]); all_goals omega), (by unfold zt_tgA; repeat (first | rw [if_pos (by omega)] | rw [if_neg (by omega)]); all_goals omega)⟩⟩
          · exfalso; omega
        · show V 98 [some (ZR 0), some (ZI o), some (ZI isTarget), some (ZI r1), none] [] 41 σ7
          refine zr_iload_n (pc := 98) hV dX12_readNamed_98 rfl rfl ?_
          refine zr_if_eq (pc := 99) hV 112 dX12_readNamed_99 (by decide) (by omega) (fun c16 => ?_) (fun c16 => ?_)
          · exfalso; omega
          · show V 102 [some (ZR 0), some (ZI o), some (ZI isTarget), some (ZI r1), none] [] 41 σ7
            refine zr_iload_n (pc := 102) hV dX12_readNamed_102 rfl rfl ?_
            refine zr_bipush (pc := 103) hV 105 dX12_readNamed_103 (by decide) ?_
            refine zr_icmp_ne (pc := 105) hV 112 dX12_readNamed_105 (by decide) (by omega) ⟨by decide, by decide⟩ (fun c17 => ?_) (fun c17 => ?_)
            · show V 112 [some (ZR 0), some (ZI o), some (ZI isTarget), some (ZI r1), none] [] 41 σ7
              refine zr_aload_n (pc := 112) hV dX12_readNamed_112 rfl rfl ?_
              refine zr_iload_n (pc := 113) hV dX12_readNamed_113 rfl rfl ?_
              refine zr_callVi (pc := 114) hV [ZI o] (st := []) (c_X12_readField2 (σ := σ7) hσ7 o (by omega)) dX12_readNamed_114 mX12_231 rfl (by decide) (by decide) (Nat.le_of_ble_eq_true rfl) (Nat.le_refl _) (fun r114 σ114 hr114 pσ114 => ?_)
              obtain ⟨hσ114, hfσ114, pσ114⟩ := pσ114
              have hFσ114 : ∀ a i : Int, (¬ (a = 0 ∧ i = 15) ∧ ¬ (a = 0 ∧ i = 17)) → σ114 a i = σ a i := fun a i h => (hfσ114 a i h.1).trans (hFσ7 a i h)
              have t18 := zx_g14 hσ7
              have t19 : σ7 0 14 = σ1 0 14 := by rw [eσ7]; exact zq_up_ne (by omega)
              have t20 : σ1 0 14 = σ 0 14 := hfσ1 _ _ (by omega)
              have t21 := zx_g15 hσ7
              have t22 : σ7 0 15 = σ1 0 15 := by rw [eσ7]; exact zq_up_ne (by omega)
              have Tσ7 : σ7 10 = σ 10 := funext (fun i => hFσ7 10 i (by omega))
              have Nσ7 : σ7 0 14 = σ 0 14 := hFσ7 0 14 (by omega)
              have Hσ7 : zt_Hr σ7 o = zt_Hr σ o := zt_Hr_fr (fun i => hFσ7 2 i (by omega)) (hFσ7 0 2 (by omega))
              rw [Tσ7, Nσ7, Hσ7] at pσ114
              have t23 := zx_g15 hσ114
              show V 117 [some (ZR 0), some (ZI o), some (ZI isTarget), some (ZI r1), none] [ZI r114] 41 σ114
              rw [show σ7 0 15 = (zt_sk (σ 10) (σ 0 14) (σ 0 15)) by omega, zt_nx_i, zt_sk_i] at pσ114
              have zu := zt_nu_n (t := σ 10) (n := σ 0 14) (m := 255) (a := σ 0 15) (by omega)
              have t24 := zx_g15 hσ114
              exact zr_iret (pc := 117) hV dX12_readNamed_117 rfl rfl ⟨_, rfl, (by omega), hσ114, hFσ114, ⟨by omega, by omega, (by unfold zt_tgR; repeat (first | rw [if_pos (by omega)] | rw [if_neg (by omega)]); all_goals omega), (by unfold zt_tgA; repeat (first | rw [if_pos (by omega)] | rw [if_neg (by omega)]); all_goals omega)⟩⟩
            · show V 108 [some (ZR 0), some (ZI o), some (ZI isTarget), some (ZI r1), none] [] 41 σ7
              refine zr_iconst (pc := 108) hV (-1) dX12_readNamed_108 rfl ?_
              refine zr_goto (pc := 109) hV 117 dX12_readNamed_109 (by decide) ?_
              show V 117 [some (ZR 0), some (ZI o), some (ZI isTarget), some (ZI r1), none] [ZI (-1)] 41 σ7
              have t25 := zx_g15 hσ7
              have t26 : σ7 0 15 = σ1 0 15 := by rw [eσ7]; exact zq_up_ne (by omega)
              exact zr_iret (pc := 117) hV dX12_readNamed_117 rfl rfl ⟨_, rfl, ⟨by decide, by decide⟩, hσ7, hFσ7, ⟨by omega, by omega, (by unfold zt_tgR; repeat (first | rw [if_pos (by omega)] | rw [if_neg (by omega)]); all_goals omega), (by unfold zt_tgA; repeat (first | rw [if_pos (by omega)] | rw [if_neg (by omega)]); all_goals omega)⟩⟩
      · show V 50 [some (ZR 0), some (ZI o), some (ZI isTarget), some (ZI r1), none] [] 41 σ7
        have zi := zt_nx_in (t := σ 10) (n := σ 0 14) (a := σ 0 15) (by omega)
        refine zr_aload_n (pc := 50) hV dX12_readNamed_50 rfl rfl ?_
        refine zr_dup (pc := 51) hV dX12_readNamed_51 (fun _ => rfl) ?_
        refine zr_getI (pc := 52) hV 15 dX12_readNamed_52 fX12_200 rfl rfl rfl (by decide) ?_
        have t27 := zx_g15 hσ7
        have t28 : σ7 0 15 = σ1 0 15 := by rw [eσ7]; exact zq_up_ne (by omega)
        refine zr_iconst (pc := 55) hV 1 dX12_readNamed_55 rfl ?_
        refine zr_iadd (pc := 56) hV dX12_readNamed_56 ?_
        refine zr_putI (pc := 57) hV 15 dX12_readNamed_57 fX12_200 rfl rfl rfl rfl (by decide) (fun σ57 eσ57 => ?_)
        have hσ57 : zx_T σ57 := zx_u15 eσ57 hσ7 (by omega)
        have hFσ57 : ∀ a i : Int, (¬ (a = 0 ∧ i = 15) ∧ ¬ (a = 0 ∧ i = 17)) → σ57 a i = σ a i := fun a i h => by rw [eσ57, zq_up_ne h.1]; exact hFσ7 a i h
        refine zr_aload_n (pc := 60) hV dX12_readNamed_60 rfl rfl ?_
        refine zr_iload_n (pc := 61) hV dX12_readNamed_61 rfl rfl ?_
        refine zr_callVi (pc := 62) hV [ZI o] (st := []) (c_X12_readField2 (σ := σ57) hσ57 o (by omega)) dX12_readNamed_62 mX12_231 rfl (by decide) (by decide) (Nat.le_of_ble_eq_true rfl) (Nat.le_refl _) (fun r62 σ62 hr62 pσ62 => ?_)
        obtain ⟨hσ62, hfσ62, pσ62⟩ := pσ62
        have hFσ62 : ∀ a i : Int, (¬ (a = 0 ∧ i = 15) ∧ ¬ (a = 0 ∧ i = 17)) → σ62 a i = σ a i := fun a i h => (hfσ62 a i h.1).trans (hFσ57 a i h)
        have t29 := zx_g14 hσ57
        have t30 : σ57 0 14 = σ7 0 14 := by rw [eσ57]; exact zq_up_ne (by omega)
        have t31 : σ7 0 14 = σ1 0 14 := by rw [eσ7]; exact zq_up_ne (by omega)
        have t32 : σ1 0 14 = σ 0 14 := hfσ1 _ _ (by omega)
        have t33 := zx_g15 hσ57
        have t34 : σ57 0 15 = (σ7 0 15) + 1 := by rw [eσ57]; exact zq_up_same _ _ _ _
        have Tσ57 : σ57 10 = σ 10 := funext (fun i => hFσ57 10 i (by omega))
        have Nσ57 : σ57 0 14 = σ 0 14 := hFσ57 0 14 (by omega)
        have Hσ57 : zt_Hr σ57 o = zt_Hr σ o := zt_Hr_fr (fun i => hFσ57 2 i (by omega)) (hFσ57 0 2 (by omega))
        rw [Tσ57, Nσ57, Hσ57] at pσ62
        have t35 := zx_g15 hσ62
        rw [show σ57 0 15 = (zt_sk (σ 10) (σ 0 14) (σ 0 15)) + 1 by omega] at pσ62
        have nm := zt_fi_b (zt_Hr σ o) (zt_nx (σ 10) (σ 0 14) ((zt_sk (σ 10) (σ 0 14) (σ 0 15)) + 1))
        refine zr_istore (pc := 65) hV [some (ZR 0), some (ZI o), some (ZI isTarget), some (ZI r1), some (ZI r62)] dX12_readNamed_65 (by decide) rfl rfl ?_
        refine zr_iload (pc := 67) hV dX12_readNamed_67 rfl ?_
        refine zr_if_lt (pc := 69) hV 81 dX12_readNamed_69 (by decide) (by omega) (fun c36 => ?_) (fun c36 => ?_)
        · show V 81 [some (ZR 0), some (ZI o), some (ZI isTarget), some (ZI r1), some (ZI r62)] [] 41 σ62
          refine zr_iconst (pc := 81) hV (-1) dX12_readNamed_81 rfl ?_
          refine zr_goto (pc := 82) hV 90 dX12_readNamed_82 (by decide) ?_
          show V 90 [some (ZR 0), some (ZI o), some (ZI isTarget), some (ZI r1), some (ZI r62)] [ZI (-1)] 41 σ62
          have t37 := zx_g15 hσ62
          exact zr_iret (pc := 90) hV dX12_readNamed_90 rfl rfl ⟨_, rfl, ⟨by decide, by decide⟩, hσ62, hFσ62, ⟨by omega, by omega, (by unfold zt_tgR zt_meR; repeat (first | rw [if_pos (by omega)] | rw [if_neg (by omega)]); all_goals omega), (by unfold zt_tgA zt_meA; repeat (first | rw [if_pos (by omega)] | rw [if_neg (by omega)]); all_goals omega)⟩⟩
        · show V 72 [some (ZR 0), some (ZI o), some (ZI isTarget), some (ZI r1), some (ZI r62)] [] 41 σ62
          refine zr_aload_n (pc := 72) hV dX12_readNamed_72 rfl rfl ?_
          refine zr_bipush (pc := 73) hV 93 dX12_readNamed_73 (by decide) ?_
          refine zr_callVi (pc := 75) hV [ZI 93] (st := []) (c_X12_takes2 (σ := σ62) hσ62 93 (by omega)) dX12_readNamed_75 mX12_234 rfl (by decide) (by decide) (Nat.le_of_ble_eq_true rfl) (Nat.le_refl _) (fun r75 σ75 hr75 pσ75 => ?_)
          obtain ⟨hσ75, hfσ75, pσ75⟩ := pσ75
          have hFσ75 : ∀ a i : Int, (¬ (a = 0 ∧ i = 15) ∧ ¬ (a = 0 ∧ i = 17)) → σ75 a i = σ a i := fun a i h => (hfσ75 a i h.1).trans (hFσ62 a i h)
          have t38 := zx_g14 hσ62
          have t39 : σ62 0 14 = σ57 0 14 := hfσ62 _ _ (by omega)
          have t40 : σ57 0 14 = σ7 0 14 := by rw [eσ57]; exact zq_up_ne (by omega)
          have t41 : σ7 0 14 = σ1 0 14 := by rw [eσ7]; exact zq_up_ne (by omega)
          have t42 : σ1 0 14 = σ 0 14 := hfσ1 _ _ (by omega)
          have t43 := zx_g15 hσ62
          have Tσ62 : σ62 10 = σ 10 := funext (fun i => hFσ62 10 i (by omega))
          have Nσ62 : σ62 0 14 = σ 0 14 := hFσ62 0 14 (by omega)
          rw [Tσ62, Nσ62] at pσ75
          have t44 := zx_g15 hσ75
          rw [show σ62 0 15 = zt_sk (σ 10) (σ 0 14) ((zt_sk (σ 10) (σ 0 14) (σ 0 15)) + 1) + 1 by omega] at pσ75
          refine zr_if_ne (pc := 78) hV 85 dX12_readNamed_78 (by decide) (by omega) (fun c45 => ?_) (fun c45 => ?_)
          · show V 85 [some (ZR 0), some (ZI o), some (ZI isTarget), some (ZI r1), some (ZI r62)] [] 41 σ75
            refine zr_bipush (pc := 85) hV 6 dX12_readNamed_85 (by decide) ?_
            refine zr_iload (pc := 87) hV dX12_readNamed_87 rfl ?_
            refine zr_iadd (pc := 89) hV dX12_readNamed_89 ?_
            show V 90 [some (ZR 0), some (ZI o), some (ZI isTarget), some (ZI r1), some (ZI r62)] [ZI (6 + r62)] 41 σ75
            have t46 := zx_g15 hσ75
            exact zr_iret (pc := 90) hV dX12_readNamed_90 rfl rfl ⟨_, rfl, (by omega), hσ75, hFσ75, ⟨by omega, by omega, (by unfold zt_tgR zt_meR; repeat (first | rw [if_pos (by omega)] | rw [if_neg (by omega)]); all_goals omega), (by unfold zt_tgA zt_meA; repeat (first | rw [if_pos (by omega)] | rw [if_neg (by omega)]); all_goals omega)⟩⟩
          · show V 81 [some (ZR 0), some (ZI o), some (ZI isTarget), some (ZI r1), some (ZI r62)] [] 41 σ75
            refine zr_iconst (pc := 81) hV (-1) dX12_readNamed_81 rfl ?_
            refine zr_goto (pc := 82) hV 90 dX12_readNamed_82 (by decide) ?_
            show V 90 [some (ZR 0), some (ZI o), some (ZI isTarget), some (ZI r1), some (ZI r62)] [ZI (-1)] 41 σ75
            have t47 := zx_g15 hσ75
            exact zr_iret (pc := 90) hV dX12_readNamed_90 rfl rfl ⟨_, rfl, ⟨by decide, by decide⟩, hσ75, hFσ75, ⟨by omega, by omega, (by unfold zt_tgR zt_meR; repeat (first | rw [if_pos (by omega)] | rw [if_neg (by omega)]); all_goals omega), (by unfold zt_tgA zt_meA; repeat (first | rw [if_pos (by omega)] | rw [if_neg (by omega)]); all_goals omega)⟩⟩
    · show V 22 [some (ZR 0), some (ZI o), some (ZI isTarget), some (ZI r1), none] [] 41 σ7
      have zi := zt_nx_in (t := σ 10) (n := σ 0 14) (a := σ 0 15) (by omega)
      refine zr_aload_n (pc := 22) hV dX12_readNamed_22 rfl rfl ?_
      refine zr_dup (pc := 23) hV dX12_readNamed_23 (fun _ => rfl) ?_
      refine zr_getI (pc := 24) hV 15 dX12_readNamed_24 fX12_200 rfl rfl rfl (by decide) ?_
      have t48 := zx_g15 hσ7
      have t49 : σ7 0 15 = σ1 0 15 := by rw [eσ7]; exact zq_up_ne (by omega)
      refine zr_iconst (pc := 27) hV 1 dX12_readNamed_27 rfl ?_
      refine zr_iadd (pc := 28) hV dX12_readNamed_28 ?_
      refine zr_putI (pc := 29) hV 15 dX12_readNamed_29 fX12_200 rfl rfl rfl rfl (by decide) (fun σ29 eσ29 => ?_)
      have hσ29 : zx_T σ29 := zx_u15 eσ29 hσ7 (by omega)
      have hFσ29 : ∀ a i : Int, (¬ (a = 0 ∧ i = 15) ∧ ¬ (a = 0 ∧ i = 17)) → σ29 a i = σ a i := fun a i h => by rw [eσ29, zq_up_ne h.1]; exact hFσ7 a i h
      refine zr_iload_n (pc := 32) hV dX12_readNamed_32 rfl rfl ?_
      refine zr_bipush (pc := 33) hV 122 dX12_readNamed_33 (by decide) ?_
      refine zr_icmp_ne (pc := 35) hV 42 dX12_readNamed_35 (by decide) (by omega) ⟨by decide, by decide⟩ (fun c50 => ?_) (fun c50 => ?_)
      · show V 42 [some (ZR 0), some (ZI o), some (ZI isTarget), some (ZI r1), none] [] 41 σ29
        refine zr_iconst (pc := 42) hV 5 dX12_readNamed_42 rfl ?_
        show V 43 [some (ZR 0), some (ZI o), some (ZI isTarget), some (ZI r1), none] [ZI 5] 41 σ29
        have t51 := zx_g15 hσ29
        have t52 : σ29 0 15 = (σ7 0 15) + 1 := by rw [eσ29]; exact zq_up_same _ _ _ _
        exact zr_iret (pc := 43) hV dX12_readNamed_43 rfl rfl ⟨_, rfl, ⟨by decide, by decide⟩, hσ29, hFσ29, ⟨by omega, by omega, (by unfold zt_tgR; repeat (first | rw [if_pos (by omega)] | rw [if_neg (by omega)]); all_goals omega), (by unfold zt_tgA; repeat (first | rw [if_pos (by omega)] | rw [if_neg (by omega)]); all_goals omega)⟩⟩
      · exfalso; omega
set_option maxHeartbeats 800000 in
theorem c_X12_readNamedO {σ : zq_S} (hσ : zx_T σ) (o isTarget : Int) (q0 : 0 ≤ o ∧ o ≤ 20) (q1 : isTarget = 0) : zq_C zx_w yX12_readNamed cX12_readNamed 5 (some .int) 3 68 41 41 [ZR 0, ZI o, ZI isTarget] σ (zq_pi (fun r τ => zx_T τ ∧ (∀ a i : Int, (¬ (a = 0 ∧ i = 15) ∧ ¬ (a = 0 ∧ i = 17)) → τ a i = σ a i) ∧ (-1 ≤ r ∧ r ≤ 10 ∧ r = zt_rc (zt_opR (zt_Hr σ o) (σ 10) (σ 0 14) (σ 0 15)) ∧ τ 0 15 = zt_opA (zt_Hr σ o) (σ 10) (σ 0 14) (σ 0 15) ∧ (0 ≤ r → τ 0 17 = zt_ru (zt_opR (zt_Hr σ o) (σ 10) (σ 0 14) (σ 0 15)))))) := by
  refine zq_C_of (by decide) (Nat.le_refl _) (Nat.le_of_ble_eq_true rfl) [some (ZR 0), some (ZI o), some (ZI isTarget), none, none] rfl (fun V hV => ?_)
  have z14 := zx_g14 hσ
  show V 0 [some (ZR 0), some (ZI o), some (ZI isTarget), none, none] [] 41 σ
  refine zr_aload_n (pc := 0) hV dX12_readNamed_0 rfl rfl ?_
  refine zr_callVi (pc := 1) hV [] (st := []) (c_X12_next2 (σ := σ) hσ ) dX12_readNamed_1 mX12_203 rfl (by decide) (by decide) (Nat.le_of_ble_eq_true rfl) (Nat.le_refl _) (fun r1 σ1 hr1 pσ1 => ?_)
  obtain ⟨hσ1, hfσ1, pσ1⟩ := pσ1
  have hFσ1 : ∀ a i : Int, (¬ (a = 0 ∧ i = 15) ∧ ¬ (a = 0 ∧ i = 17)) → σ1 a i = σ a i := fun a i h => (hfσ1 a i h.1)
  have t1 := zx_g14 hσ
  have t2 := zx_g15 hσ
  have t3 := zx_g15 hσ1
  have n1 : (zt_nx (σ 10) (σ 0 14) (σ 0 15)) = 122 → zt_ns (zt_Hr σ o) (zt_nx (σ 10) (σ 0 14) (σ 0 15)) = 4 := fun h => zt_ns_z _ h
  have n2 : (zt_nx (σ 10) (σ 0 14) (σ 0 15)) = 112 → zt_ns (zt_Hr σ o) (zt_nx (σ 10) (σ 0 14) (σ 0 15)) = 5 := fun h => zt_ns_p _ h
  have n3 : (zt_nx (σ 10) (σ 0 14) (σ 0 15)) ≠ 122 → (zt_nx (σ 10) (σ 0 14) (σ 0 15)) ≠ 112 → zt_ns (zt_Hr σ o) (zt_nx (σ 10) (σ 0 14) (σ 0 15)) = zt_fi (zt_Hr σ o) (zt_nx (σ 10) (σ 0 14) (σ 0 15)) := fun h k => zt_ns_f _ h k
  have n4 := zt_fi_b (zt_Hr σ o) (zt_nx (σ 10) (σ 0 14) (σ 0 15))
  have n5 : zt_fl (zt_nx (σ 10) (σ 0 14) (σ 0 15)) < 0 → zt_fi (zt_Hr σ o) (zt_nx (σ 10) (σ 0 14) (σ 0 15)) = -1 := fun h => zt_fi_n (fun q => absurd q.1 (by omega))
  have n6 := zt_fl_b (zt_nx (σ 10) (σ 0 14) (σ 0 15))
  have n7 : zt_fi (zt_Hr σ o) (zt_nx (σ 10) (σ 0 14) (σ 0 15)) = -1 ∨ zt_fi (zt_Hr σ o) (zt_nx (σ 10) (σ 0 14) (σ 0 15)) = zt_fl (zt_nx (σ 10) (σ 0 14) (σ 0 15)) := by unfold zt_fi; split <;> simp
  refine zr_istore_n (pc := 4) hV [some (ZR 0), some (ZI o), some (ZI isTarget), some (ZI r1), none] dX12_readNamed_4 rfl (by decide) rfl rfl ?_
  refine zr_aload_n (pc := 5) hV dX12_readNamed_5 rfl rfl ?_
  refine zr_iconst (pc := 6) hV 0 dX12_readNamed_6 rfl ?_
  refine zr_putI (pc := 7) hV 17 dX12_readNamed_7 fX12_228 rfl rfl rfl rfl (by decide) (fun σ7 eσ7 => ?_)
  have hσ7 : zx_T σ7 := zx_u17 eσ7 hσ1 (by omega)
  have hFσ7 : ∀ a i : Int, (¬ (a = 0 ∧ i = 15) ∧ ¬ (a = 0 ∧ i = 17)) → σ7 a i = σ a i := fun a i h => by rw [eσ7, zq_up_ne h.2]; exact hFσ1 a i h
  refine zr_iload_n (pc := 10) hV dX12_readNamed_10 rfl rfl ?_
  refine zr_bipush (pc := 11) hV 122 dX12_readNamed_11 (by decide) ?_
  refine zr_icmp_eq (pc := 13) hV 22 dX12_readNamed_13 (by decide) (by omega) ⟨by decide, by decide⟩ (fun c4 => ?_) (fun c4 => ?_)
  · show V 22 [some (ZR 0), some (ZI o), some (ZI isTarget), some (ZI r1), none] [] 41 σ7
    have zi := zt_nx_in (t := σ 10) (n := σ 0 14) (a := σ 0 15) (by omega)
    refine zr_aload_n (pc := 22) hV dX12_readNamed_22 rfl rfl ?_
    refine zr_dup (pc := 23) hV dX12_readNamed_23 (fun _ => rfl) ?_
    refine zr_getI (pc := 24) hV 15 dX12_readNamed_24 fX12_200 rfl rfl rfl (by decide) ?_
    have t5 := zx_g15 hσ7
    have t6 : σ7 0 15 = σ1 0 15 := by rw [eσ7]; exact zq_up_ne (by omega)
    refine zr_iconst (pc := 27) hV 1 dX12_readNamed_27 rfl ?_
    refine zr_iadd (pc := 28) hV dX12_readNamed_28 ?_
    refine zr_putI (pc := 29) hV 15 dX12_readNamed_29 fX12_200 rfl rfl rfl rfl (by decide) (fun σ29 eσ29 => ?_)
    have hσ29 : zx_T σ29 := zx_u15 eσ29 hσ7 (by omega)
    have hFσ29 : ∀ a i : Int, (¬ (a = 0 ∧ i = 15) ∧ ¬ (a = 0 ∧ i = 17)) → σ29 a i = σ a i := fun a i h => by rw [eσ29, zq_up_ne h.1]; exact hFσ7 a i h
    refine zr_iload_n (pc := 32) hV dX12_readNamed_32 rfl rfl ?_
    refine zr_bipush (pc := 33) hV 122 dX12_readNamed_33 (by decide) ?_
    refine zr_icmp_ne (pc := 35) hV 42 dX12_readNamed_35 (by decide) (by omega) ⟨by decide, by decide⟩ (fun c7 => ?_) (fun c7 => ?_)
    · exfalso; omega
    · show V 38 [some (ZR 0), some (ZI o), some (ZI isTarget), some (ZI r1), none] [] 41 σ29
      refine zr_iconst (pc := 38) hV 4 dX12_readNamed_38 rfl ?_
      refine zr_goto (pc := 39) hV 43 dX12_readNamed_39 (by decide) ?_
      show V 43 [some (ZR 0), some (ZI o), some (ZI isTarget), some (ZI r1), none] [ZI 4] 41 σ29
      have t8 := zx_g15 hσ29
      have t9 : σ29 0 15 = (σ7 0 15) + 1 := by rw [eσ29]; exact zq_up_same _ _ _ _
      have t10 := zx_g17 hσ29
      have t11 : σ29 0 17 = σ7 0 17 := by rw [eσ29]; exact zq_up_ne (by omega)
      have t12 : σ7 0 17 = 0 := by rw [eσ7]; exact zq_up_same _ _ _ _
      exact zr_iret (pc := 43) hV dX12_readNamed_43 rfl rfl ⟨_, rfl, ⟨by decide, by decide⟩, hσ29, hFσ29, ⟨by omega, by omega, (by rw [(show zt_opR (zt_Hr σ o) (σ 10) (σ 0 14) (σ 0 15) = 4 from (by unfold zt_opR; repeat (first | rw [if_pos (by omega)] | rw [if_neg (by omega)]); all_goals omega))]; unfold zt_rc; repeat (first | rw [if_pos (by omega)] | rw [if_neg (by omega)]); all_goals omega), (by unfold zt_opA; repeat (first | rw [if_pos (by omega)] | rw [if_neg (by omega)]); all_goals omega), (fun h => by rw [(show zt_opR (zt_Hr σ o) (σ 10) (σ 0 14) (σ 0 15) = 4 from (by unfold zt_opR; repeat (first | rw [if_pos (by omega)] | rw [if_neg (by omega)]); all_goals omega))]; unfold zt_ru; repeat (first | rw [if_pos (by omega)] | rw [if_neg (by omega)]); all_goals omega)⟩⟩
  · show V 16 [some (ZR 0), some (ZI o), some (ZI isTarget), some (ZI r1), none] [] 41 σ7
    refine zr_iload_n (pc := 16) hV dX12_readNamed_16 rfl rfl ?_
    refine zr_bipush (pc := 17) hV 112 dX12_readNamed_17 (by decide) ?_
    refine zr_icmp_ne (pc := 19) hV 44 dX12_readNamed_19 (by decide) (by omega) ⟨by decide, by decide⟩ (fun c13 => ?_) (fun c13 => ?_)
    · show V 44 [some (ZR 0), some (ZI o), some (ZI isTarget), some (ZI r1), none] [] 41 σ7
      refine zr_iload_n (pc := 44) hV dX12_readNamed_44 rfl rfl ?_
      refine zr_bipush (pc := 45) hV 91 dX12_readNamed_45 (by decide) ?_
      refine zr_icmp_ne (pc := 47) hV 91 dX12_readNamed_47 (by decide) (by omega) ⟨by decide, by decide⟩ (fun c14 => ?_) (fun c14 => ?_)
      · show V 91 [some (ZR 0), some (ZI o), some (ZI isTarget), some (ZI r1), none] [] 41 σ7
        refine zr_iload_n (pc := 91) hV dX12_readNamed_91 rfl rfl ?_
        refine zr_callSp (pc := 92) hV [ZI r1] (st := []) (c_X12_fieldLetter2 (σ := σ7) r1 (by omega)) dX12_readNamed_92 mX12_225 (by decide) (Nat.le_of_ble_eq_true rfl) (Nat.le_refl _) (fun r92 hr92 pr92 => ?_)
        have z92 : r92 = zt_fl (zt_nx (σ 10) (σ 0 14) (σ 0 15)) := by rw [← (show r1 = (zt_nx (σ 10) (σ 0 14) (σ 0 15)) by omega)]; omega
        refine zr_if_lt (pc := 95) hV 118 dX12_readNamed_95 (by decide) (by omega) (fun c15 => ?_) (fun c15 => ?_)
        · show V 118 [some (ZR 0), some (ZI o), some (ZI isTarget), some (ZI r1), none] [] 41 σ7
          refine zr_iload_n (pc := 118) hV dX12_readNamed_118 rfl rfl ?_
          refine zr_if_ne (pc := 119) hV 136 dX12_readNamed_119 (by decide) (by omega) (fun c16 => ?_) (fun c16 => ?_)
          · exfalso; omega
          · show V 122 [some (ZR 0), some (ZI o), some (ZI isTarget), some (ZI r1), none] [] 41 σ7
            refine zr_iload_n (pc := 122) hV dX12_readNamed_122 rfl rfl ?_
            refine zr_i2l (pc := 123) hV dX12_readNamed_123 (by omega) ?_
            refine zr_ldc2 (pc := 124) (v := 48) hV 48 dX12_readNamed_124 kX12_207 (by decide) ?_
            refine zr_ldc2 (pc := 127) (v := 57) hV 57 dX12_readNamed_127 kX12_209 (by decide) ?_
            refine zr_callSp (pc := 130) hV [ZL r1, ZL 48, ZL 57] (st := []) (c_X12_in (σ := σ7) r1 48 57 (by omega) (by omega) (by omega)) dX12_readNamed_130 mX12_170 (by decide) (Nat.le_of_ble_eq_true rfl) (Nat.le_refl _) (fun r130 hr130 pr130 => ?_)
            refine zr_if_ne (pc := 133) hV 138 dX12_readNamed_133 (by decide) (by omega) (fun c17 => ?_) (fun c17 => ?_)
            · show V 138 [some (ZR 0), some (ZI o), some (ZI isTarget), some (ZI r1), none] [] 41 σ7
              refine zr_aload_n (pc := 138) hV dX12_readNamed_138 rfl rfl ?_
              refine zr_aload_n (pc := 139) hV dX12_readNamed_139 rfl rfl ?_
              refine zr_sipush (pc := 140) hV 255 dX12_readNamed_140 (by decide) ?_
              refine zr_callVi (pc := 143) hV [ZI 255] (st := [ZR 0]) (c_X12_number2 (σ := σ7) hσ7 255 (by omega)) dX12_readNamed_143 mX12_238 rfl (by decide) (by decide) (Nat.le_of_ble_eq_true rfl) (Nat.le_refl _) (fun r143 σ143 hr143 pσ143 => ?_)
              obtain ⟨hσ143, hfσ143, pσ143⟩ := pσ143
              have hFσ143 : ∀ a i : Int, (¬ (a = 0 ∧ i = 15) ∧ ¬ (a = 0 ∧ i = 17)) → σ143 a i = σ a i := fun a i h => (hfσ143 a i h.1).trans (hFσ7 a i h)
              have t18 := zx_g14 hσ7
              have t19 : σ7 0 14 = σ1 0 14 := by rw [eσ7]; exact zq_up_ne (by omega)
              have t20 : σ1 0 14 = σ 0 14 := hfσ1 _ _ (by omega)
              have t21 := zx_g15 hσ7
              have t22 : σ7 0 15 = σ1 0 15 := by rw [eσ7]; exact zq_up_ne (by omega)
              have Tσ7 : σ7 10 = σ 10 := funext (fun i => hFσ7 10 i (by omega))
              have Nσ7 : σ7 0 14 = σ 0 14 := hFσ7 0 14 (by omega)
              rw [Tσ7, Nσ7] at pσ143
              have t23 := zx_g15 hσ143
              rw [show σ7 0 15 = (zt_sk (σ 10) (σ 0 14) (σ 0 15)) by omega, (zt_nu_i _ _ _ _).1, (zt_nu_i _ _ _ _).2] at pσ143
              refine zr_putI (pc := 146) hV 17 dX12_readNamed_146 fX12_228 rfl rfl rfl rfl (by decide) (fun σ146 eσ146 => ?_)
              have hσ146 : zx_T σ146 := zx_u17 eσ146 hσ143 (by omega)
              have hFσ146 : ∀ a i : Int, (¬ (a = 0 ∧ i = 15) ∧ ¬ (a = 0 ∧ i = 17)) → σ146 a i = σ a i := fun a i h => by rw [eσ146, zq_up_ne h.2]; exact hFσ143 a i h
              refine zr_aload_n (pc := 149) hV dX12_readNamed_149 rfl rfl ?_
              refine zr_getI (pc := 150) hV 17 dX12_readNamed_150 fX12_228 rfl rfl rfl (by decide) ?_
              have t24 := zx_g17 hσ146
              have t25 : σ146 0 17 = r143 := by rw [eσ146]; exact zq_up_same _ _ _ _
              refine zr_if_ge (pc := 153) hV 160 dX12_readNamed_153 (by decide) (by omega) (fun c26 => ?_) (fun c26 => ?_)
              · show V 160 [some (ZR 0), some (ZI o), some (ZI isTarget), some (ZI r1), none] [] 41 σ146
                refine zr_bipush (pc := 160) hV 10 dX12_readNamed_160 (by decide) ?_
                show V 162 [some (ZR 0), some (ZI o), some (ZI isTarget), some (ZI r1), none] [ZI 10] 41 σ146
                have t27 := zx_g15 hσ146
                have t28 : σ146 0 15 = σ143 0 15 := by rw [eσ146]; exact zq_up_ne (by omega)
                have t29 := zx_g17 hσ146
                have t30 : σ146 0 17 = r143 := by rw [eσ146]; exact zq_up_same _ _ _ _
                exact zr_iret (pc := 162) hV dX12_readNamed_162 rfl rfl ⟨_, rfl, ⟨by decide, by decide⟩, hσ146, hFσ146, ⟨by omega, by omega, (by rw [(show zt_opR (zt_Hr σ o) (σ 10) (σ 0 14) (σ 0 15) = 16 + r143 from (by unfold zt_opR; repeat (first | rw [if_pos (by omega)] | rw [if_neg (by omega)]); all_goals omega))]; unfold zt_rc; repeat (first | rw [if_pos (by omega)] | rw [if_neg (by omega)]); all_goals omega), (by unfold zt_opA; repeat (first | rw [if_pos (by omega)] | rw [if_neg (by omega)]); all_goals omega), (fun h => by rw [(show zt_opR (zt_Hr σ o) (σ 10) (σ 0 14) (σ 0 15) = 16 + r143 from (by unfold zt_opR; repeat (first | rw [if_pos (by omega)] | rw [if_neg (by omega)]); all_goals omega))]; unfold zt_ru; repeat (first | rw [if_pos (by omega)] | rw [if_neg (by omega)]); all_goals omega)⟩⟩
              · show V 156 [some (ZR 0), some (ZI o), some (ZI isTarget), some (ZI r1), none] [] 41 σ146
                refine zr_iconst (pc := 156) hV (-1) dX12_readNamed_156 rfl ?_
                refine zr_goto (pc := 157) hV 162 dX12_readNamed_157 (by decide) ?_
                show V 162 [some (ZR 0), some (ZI o), some (ZI isTarget), some (ZI r1), none] [ZI (-1)] 41 σ146
                have t31 := zx_g15 hσ146
                have t32 : σ146 0 15 = σ143 0 15 := by rw [eσ146]; exact zq_up_ne (by omega)
                have t33 := zx_g17 hσ146
                have t34 : σ146 0 17 = r143 := by rw [eσ146]; exact zq_up_same _ _ _ _
                exact zr_iret (pc := 162) hV dX12_readNamed_162 rfl rfl ⟨_, rfl, ⟨by decide, by decide⟩, hσ146, hFσ146, ⟨by omega, by omega, (by rw [(show zt_opR (zt_Hr σ o) (σ 10) (σ 0 14) (σ 0 15) = (-1) from (by unfold zt_opR; repeat (first | rw [if_pos (by omega)] | rw [if_neg (by omega)]); all_goals omega))]; unfold zt_rc; repeat (first | rw [if_pos (by omega)] | rw [if_neg (by omega)]); all_goals omega), (by unfold zt_opA; repeat (first | rw [if_pos (by omega)] | rw [if_neg (by omega)]); all_goals omega), (fun h => absurd h (by omega))⟩⟩
            · show V 136 [some (ZR 0), some (ZI o), some (ZI isTarget), some (ZI r1), none] [] 41 σ7
              have zu := zt_nu_n (t := σ 10) (n := σ 0 14) (m := 255) (a := σ 0 15) (by omega)
              refine zr_iconst (pc := 136) hV (-1) dX12_readNamed_136 rfl ?_
              have t35 := zx_g15 hσ7
              have t36 : σ7 0 15 = σ1 0 15 := by rw [eσ7]; exact zq_up_ne (by omega)
              have t37 := zx_g17 hσ7
              have t38 : σ7 0 17 = 0 := by rw [eσ7]; exact zq_up_same _ _ _ _
              exact zr_iret (pc := 137) hV dX12_readNamed_137 rfl rfl ⟨_, rfl, ⟨by decide, by decide⟩, hσ7, hFσ7, ⟨by omega, by omega, (by rw [(show zt_opR (zt_Hr σ o) (σ 10) (σ 0 14) (σ 0 15) = (-1) from (by unfold zt_opR; repeat (first | rw [if_pos (by omega)] | rw [if_neg (by omega)]); all_goals omega))]; unfold zt_rc; repeat (first | rw [if_pos (by omega)] | rw [if_neg (by omega)]); all_goals omega), (by unfold zt_opA; repeat (first | rw [if_pos (by omega)] | rw [if_neg (by omega)]); all_goals omega), (fun h => absurd h (by omega))⟩⟩
        · show V 98 [some (ZR 0), some (ZI o), some (ZI isTarget), some (ZI r1), none] [] 41 σ7
          refine zr_iload_n (pc := 98) hV dX12_readNamed_98 rfl rfl ?_
          refine zr_if_eq (pc := 99) hV 112 dX12_readNamed_99 (by decide) (by omega) (fun c39 => ?_) (fun c39 => ?_)
          · show V 112 [some (ZR 0), some (ZI o), some (ZI isTarget), some (ZI r1), none] [] 41 σ7
            refine zr_aload_n (pc := 112) hV dX12_readNamed_112 rfl rfl ?_
            refine zr_iload_n (pc := 113) hV dX12_readNamed_113 rfl rfl ?_
            refine zr_callVi (pc := 114) hV [ZI o] (st := []) (c_X12_readField2 (σ := σ7) hσ7 o (by omega)) dX12_readNamed_114 mX12_231 rfl (by decide) (by decide) (Nat.le_of_ble_eq_true rfl) (Nat.le_refl _) (fun r114 σ114 hr114 pσ114 => ?_)
            obtain ⟨hσ114, hfσ114, pσ114⟩ := pσ114
            have hFσ114 : ∀ a i : Int, (¬ (a = 0 ∧ i = 15) ∧ ¬ (a = 0 ∧ i = 17)) → σ114 a i = σ a i := fun a i h => (hfσ114 a i h.1).trans (hFσ7 a i h)
            have t40 := zx_g14 hσ7
            have t41 : σ7 0 14 = σ1 0 14 := by rw [eσ7]; exact zq_up_ne (by omega)
            have t42 : σ1 0 14 = σ 0 14 := hfσ1 _ _ (by omega)
            have t43 := zx_g15 hσ7
            have t44 : σ7 0 15 = σ1 0 15 := by rw [eσ7]; exact zq_up_ne (by omega)
            have Tσ7 : σ7 10 = σ 10 := funext (fun i => hFσ7 10 i (by omega))
            have Nσ7 : σ7 0 14 = σ 0 14 := hFσ7 0 14 (by omega)
            have Hσ7 : zt_Hr σ7 o = zt_Hr σ o := zt_Hr_fr (fun i => hFσ7 2 i (by omega)) (hFσ7 0 2 (by omega))
            rw [Tσ7, Nσ7, Hσ7] at pσ114
            have t45 := zx_g15 hσ114
            show V 117 [some (ZR 0), some (ZI o), some (ZI isTarget), some (ZI r1), none] [ZI r114] 41 σ114
            rw [show σ7 0 15 = (zt_sk (σ 10) (σ 0 14) (σ 0 15)) by omega, zt_nx_i, zt_sk_i] at pσ114
            have zu := zt_nu_n (t := σ 10) (n := σ 0 14) (m := 255) (a := σ 0 15) (by omega)
            have t46 := zx_g15 hσ114
            have t47 := zx_g17 hσ114
            have t48 : σ114 0 17 = σ7 0 17 := hfσ114 _ _ (by omega)
            have t49 : σ7 0 17 = 0 := by rw [eσ7]; exact zq_up_same _ _ _ _
            exact zr_iret (pc := 117) hV dX12_readNamed_117 rfl rfl ⟨_, rfl, (by omega), hσ114, hFσ114, ⟨by omega, by omega, (by rw [(show zt_opR (zt_Hr σ o) (σ 10) (σ 0 14) (σ 0 15) = r114 from (by unfold zt_opR; repeat (first | rw [if_pos (by omega)] | rw [if_neg (by omega)]); all_goals omega))]; unfold zt_rc; repeat (first | rw [if_pos (by omega)] | rw [if_neg (by omega)]); all_goals omega), (by unfold zt_opA; repeat (first | rw [if_pos (by omega)] | rw [if_neg (by omega)]); all_goals omega), (fun h => by rw [(show zt_opR (zt_Hr σ o) (σ 10) (σ 0 14) (σ 0 15) = r114 from (by unfold zt_opR; repeat (first | rw [if_pos (by omega)] | rw [if_neg (by omega)]); all_goals omega))]; unfold zt_ru; repeat (first | rw [if_pos (by omega)] | rw [if_neg (by omega)]); all_goals omega)⟩⟩
          · exfalso; omega
      · show V 50 [some (ZR 0), some (ZI o), some (ZI isTarget), some (ZI r1), none] [] 41 σ7
        have zi := zt_nx_in (t := σ 10) (n := σ 0 14) (a := σ 0 15) (by omega)
        refine zr_aload_n (pc := 50) hV dX12_readNamed_50 rfl rfl ?_
        refine zr_dup (pc := 51) hV dX12_readNamed_51 (fun _ => rfl) ?_
        refine zr_getI (pc := 52) hV 15 dX12_readNamed_52 fX12_200 rfl rfl rfl (by decide) ?_
        have t50 := zx_g15 hσ7
        have t51 : σ7 0 15 = σ1 0 15 := by rw [eσ7]; exact zq_up_ne (by omega)
        refine zr_iconst (pc := 55) hV 1 dX12_readNamed_55 rfl ?_
        refine zr_iadd (pc := 56) hV dX12_readNamed_56 ?_
        refine zr_putI (pc := 57) hV 15 dX12_readNamed_57 fX12_200 rfl rfl rfl rfl (by decide) (fun σ57 eσ57 => ?_)
        have hσ57 : zx_T σ57 := zx_u15 eσ57 hσ7 (by omega)
        have hFσ57 : ∀ a i : Int, (¬ (a = 0 ∧ i = 15) ∧ ¬ (a = 0 ∧ i = 17)) → σ57 a i = σ a i := fun a i h => by rw [eσ57, zq_up_ne h.1]; exact hFσ7 a i h
        refine zr_aload_n (pc := 60) hV dX12_readNamed_60 rfl rfl ?_
        refine zr_iload_n (pc := 61) hV dX12_readNamed_61 rfl rfl ?_
        refine zr_callVi (pc := 62) hV [ZI o] (st := []) (c_X12_readField2 (σ := σ57) hσ57 o (by omega)) dX12_readNamed_62 mX12_231 rfl (by decide) (by decide) (Nat.le_of_ble_eq_true rfl) (Nat.le_refl _) (fun r62 σ62 hr62 pσ62 => ?_)
        obtain ⟨hσ62, hfσ62, pσ62⟩ := pσ62
        have hFσ62 : ∀ a i : Int, (¬ (a = 0 ∧ i = 15) ∧ ¬ (a = 0 ∧ i = 17)) → σ62 a i = σ a i := fun a i h => (hfσ62 a i h.1).trans (hFσ57 a i h)
        have t52 := zx_g14 hσ57
        have t53 : σ57 0 14 = σ7 0 14 := by rw [eσ57]; exact zq_up_ne (by omega)
        have t54 : σ7 0 14 = σ1 0 14 := by rw [eσ7]; exact zq_up_ne (by omega)
        have t55 : σ1 0 14 = σ 0 14 := hfσ1 _ _ (by omega)
        have t56 := zx_g15 hσ57
        have t57 : σ57 0 15 = (σ7 0 15) + 1 := by rw [eσ57]; exact zq_up_same _ _ _ _
        have Tσ57 : σ57 10 = σ 10 := funext (fun i => hFσ57 10 i (by omega))
        have Nσ57 : σ57 0 14 = σ 0 14 := hFσ57 0 14 (by omega)
        have Hσ57 : zt_Hr σ57 o = zt_Hr σ o := zt_Hr_fr (fun i => hFσ57 2 i (by omega)) (hFσ57 0 2 (by omega))
        rw [Tσ57, Nσ57, Hσ57] at pσ62
        have t58 := zx_g15 hσ62
        rw [show σ57 0 15 = (zt_sk (σ 10) (σ 0 14) (σ 0 15)) + 1 by omega] at pσ62
        have nm := zt_fi_b (zt_Hr σ o) (zt_nx (σ 10) (σ 0 14) ((zt_sk (σ 10) (σ 0 14) (σ 0 15)) + 1))
        refine zr_istore (pc := 65) hV [some (ZR 0), some (ZI o), some (ZI isTarget), some (ZI r1), some (ZI r62)] dX12_readNamed_65 (by decide) rfl rfl ?_
        refine zr_iload (pc := 67) hV dX12_readNamed_67 rfl ?_
        refine zr_if_lt (pc := 69) hV 81 dX12_readNamed_69 (by decide) (by omega) (fun c59 => ?_) (fun c59 => ?_)
        · show V 81 [some (ZR 0), some (ZI o), some (ZI isTarget), some (ZI r1), some (ZI r62)] [] 41 σ62
          refine zr_iconst (pc := 81) hV (-1) dX12_readNamed_81 rfl ?_
          refine zr_goto (pc := 82) hV 90 dX12_readNamed_82 (by decide) ?_
          show V 90 [some (ZR 0), some (ZI o), some (ZI isTarget), some (ZI r1), some (ZI r62)] [ZI (-1)] 41 σ62
          have t60 := zx_g15 hσ62
          have t61 := zx_g17 hσ62
          have t62 : σ62 0 17 = σ57 0 17 := hfσ62 _ _ (by omega)
          have t63 : σ57 0 17 = σ7 0 17 := by rw [eσ57]; exact zq_up_ne (by omega)
          have t64 : σ7 0 17 = 0 := by rw [eσ7]; exact zq_up_same _ _ _ _
          exact zr_iret (pc := 90) hV dX12_readNamed_90 rfl rfl ⟨_, rfl, ⟨by decide, by decide⟩, hσ62, hFσ62, ⟨by omega, by omega, (by rw [(show zt_opR (zt_Hr σ o) (σ 10) (σ 0 14) (σ 0 15) = (-1) from (by unfold zt_opR zt_meR; repeat (first | rw [if_pos (by omega)] | rw [if_neg (by omega)]); all_goals omega))]; unfold zt_rc; repeat (first | rw [if_pos (by omega)] | rw [if_neg (by omega)]); all_goals omega), (by unfold zt_opA zt_meA; repeat (first | rw [if_pos (by omega)] | rw [if_neg (by omega)]); all_goals omega), (fun h => absurd h (by omega))⟩⟩
        · show V 72 [some (ZR 0), some (ZI o), some (ZI isTarget), some (ZI r1), some (ZI r62)] [] 41 σ62
          refine zr_aload_n (pc := 72) hV dX12_readNamed_72 rfl rfl ?_
          refine zr_bipush (pc := 73) hV 93 dX12_readNamed_73 (by decide) ?_
          refine zr_callVi (pc := 75) hV [ZI 93] (st := []) (c_X12_takes2 (σ := σ62) hσ62 93 (by omega)) dX12_readNamed_75 mX12_234 rfl (by decide) (by decide) (Nat.le_of_ble_eq_true rfl) (Nat.le_refl _) (fun r75 σ75 hr75 pσ75 => ?_)
          obtain ⟨hσ75, hfσ75, pσ75⟩ := pσ75
          have hFσ75 : ∀ a i : Int, (¬ (a = 0 ∧ i = 15) ∧ ¬ (a = 0 ∧ i = 17)) → σ75 a i = σ a i := fun a i h => (hfσ75 a i h.1).trans (hFσ62 a i h)
          have t65 := zx_g14 hσ62
          have t66 : σ62 0 14 = σ57 0 14 := hfσ62 _ _ (by omega)
          have t67 : σ57 0 14 = σ7 0 14 := by rw [eσ57]; exact zq_up_ne (by omega)
          have t68 : σ7 0 14 = σ1 0 14 := by rw [eσ7]; exact zq_up_ne (by omega)
          have t69 : σ1 0 14 = σ 0 14 := hfσ1 _ _ (by omega)
          have t70 := zx_g15 hσ62
          have Tσ62 : σ62 10 = σ 10 := funext (fun i => hFσ62 10 i (by omega))
          have Nσ62 : σ62 0 14 = σ 0 14 := hFσ62 0 14 (by omega)
          rw [Tσ62, Nσ62] at pσ75
          have t71 := zx_g15 hσ75
          rw [show σ62 0 15 = zt_sk (σ 10) (σ 0 14) ((zt_sk (σ 10) (σ 0 14) (σ 0 15)) + 1) + 1 by omega] at pσ75
          refine zr_if_ne (pc := 78) hV 85 dX12_readNamed_78 (by decide) (by omega) (fun c72 => ?_) (fun c72 => ?_)
          · show V 85 [some (ZR 0), some (ZI o), some (ZI isTarget), some (ZI r1), some (ZI r62)] [] 41 σ75
            refine zr_bipush (pc := 85) hV 6 dX12_readNamed_85 (by decide) ?_
            refine zr_iload (pc := 87) hV dX12_readNamed_87 rfl ?_
            refine zr_iadd (pc := 89) hV dX12_readNamed_89 ?_
            show V 90 [some (ZR 0), some (ZI o), some (ZI isTarget), some (ZI r1), some (ZI r62)] [ZI (6 + r62)] 41 σ75
            have t73 := zx_g15 hσ75
            have t74 := zx_g17 hσ75
            have t75 : σ75 0 17 = σ62 0 17 := hfσ75 _ _ (by omega)
            have t76 : σ62 0 17 = σ57 0 17 := hfσ62 _ _ (by omega)
            have t77 : σ57 0 17 = σ7 0 17 := by rw [eσ57]; exact zq_up_ne (by omega)
            have t78 : σ7 0 17 = 0 := by rw [eσ7]; exact zq_up_same _ _ _ _
            exact zr_iret (pc := 90) hV dX12_readNamed_90 rfl rfl ⟨_, rfl, (by omega), hσ75, hFσ75, ⟨by omega, by omega, (by rw [(show zt_opR (zt_Hr σ o) (σ 10) (σ 0 14) (σ 0 15) = 6 + r62 from (by unfold zt_opR zt_meR; repeat (first | rw [if_pos (by omega)] | rw [if_neg (by omega)]); all_goals omega))]; unfold zt_rc; repeat (first | rw [if_pos (by omega)] | rw [if_neg (by omega)]); all_goals omega), (by unfold zt_opA zt_meA; repeat (first | rw [if_pos (by omega)] | rw [if_neg (by omega)]); all_goals omega), (fun h => by rw [(show zt_opR (zt_Hr σ o) (σ 10) (σ 0 14) (σ 0 15) = 6 + r62 from (by unfold zt_opR zt_meR; repeat (first | rw [if_pos (by omega)] | rw [if_neg (by omega)]); all_goals omega))]; unfold zt_ru; repeat (first | rw [if_pos (by omega)] | rw [if_neg (by omega)]); all_goals omega)⟩⟩
          · show V 81 [some (ZR 0), some (ZI o), some (ZI isTarget), some (ZI r1), some (ZI r62)] [] 41 σ75
            refine zr_iconst (pc := 81) hV (-1) dX12_readNamed_81 rfl ?_
            refine zr_goto (pc := 82) hV 90 dX12_readNamed_82 (by decide) ?_
            show V 90 [some (ZR 0), some (ZI o), some (ZI isTarget), some (ZI r1), some (ZI r62)] [ZI (-1)] 41 σ75
            have t79 := zx_g15 hσ75
            have t80 := zx_g17 hσ75
            have t81 : σ75 0 17 = σ62 0 17 := hfσ75 _ _ (by omega)
            have t82 : σ62 0 17 = σ57 0 17 := hfσ62 _ _ (by omega)
            have t83 : σ57 0 17 = σ7 0 17 := by rw [eσ57]; exact zq_up_ne (by omega)
            have t84 : σ7 0 17 = 0 := by rw [eσ7]; exact zq_up_same _ _ _ _
            exact zr_iret (pc := 90) hV dX12_readNamed_90 rfl rfl ⟨_, rfl, ⟨by decide, by decide⟩, hσ75, hFσ75, ⟨by omega, by omega, (by rw [(show zt_opR (zt_Hr σ o) (σ 10) (σ 0 14) (σ 0 15) = (-1) from (by unfold zt_opR zt_meR; repeat (first | rw [if_pos (by omega)] | rw [if_neg (by omega)]); all_goals omega))]; unfold zt_rc; repeat (first | rw [if_pos (by omega)] | rw [if_neg (by omega)]); all_goals omega), (by unfold zt_opA zt_meA; repeat (first | rw [if_pos (by omega)] | rw [if_neg (by omega)]); all_goals omega), (fun h => absurd h (by omega))⟩⟩
    · show V 22 [some (ZR 0), some (ZI o), some (ZI isTarget), some (ZI r1), none] [] 41 σ7
      have zi := zt_nx_in (t := σ 10) (n := σ 0 14) (a := σ 0 15) (by omega)
      refine zr_aload_n (pc := 22) hV dX12_readNamed_22 rfl rfl ?_
      refine zr_dup (pc := 23) hV dX12_readNamed_23 (fun _ => rfl) ?_
      refine zr_getI (pc := 24) hV 15 dX12_readNamed_24 fX12_200 rfl rfl rfl (by decide) ?_
      have t85 := zx_g15 hσ7
      have t86 : σ7 0 15 = σ1 0 15 := by rw [eσ7]; exact zq_up_ne (by omega)
      refine zr_iconst (pc := 27) hV 1 dX12_readNamed_27 rfl ?_
      refine zr_iadd (pc := 28) hV dX12_readNamed_28 ?_
      refine zr_putI (pc := 29) hV 15 dX12_readNamed_29 fX12_200 rfl rfl rfl rfl (by decide) (fun σ29 eσ29 => ?_)
      have hσ29 : zx_T σ29 := zx_u15 eσ29 hσ7 (by omega)
      have hFσ29 : ∀ a i : Int, (¬ (a = 0 ∧ i = 15) ∧ ¬ (a = 0 ∧ i = 17)) → σ29 a i = σ a i := fun a i h => by rw [eσ29, zq_up_ne h.1]; exact hFσ7 a i h
      refine zr_iload_n (pc := 32) hV dX12_readNamed_32 rfl rfl ?_
      refine zr_bipush (pc := 33) hV 122 dX12_readNamed_33 (by decide) ?_
      refine zr_icmp_ne (pc := 35) hV 42 dX12_readNamed_35 (by decide) (by omega) ⟨by decide, by decide⟩ (fun c87 => ?_) (fun c87 => ?_)
      · show V 42 [some (ZR 0), some (ZI o), some (ZI isTarget), some (ZI r1), none] [] 41 σ29
        refine zr_iconst (pc := 42) hV 5 dX12_readNamed_42 rfl ?_
        show V 43 [some (ZR 0), some (ZI o), some (ZI isTarget), some (ZI r1), none] [ZI 5] 41 σ29
        have t88 := zx_g15 hσ29
        have t89 : σ29 0 15 = (σ7 0 15) + 1 := by rw [eσ29]; exact zq_up_same _ _ _ _
        have t90 := zx_g17 hσ29
        have t91 : σ29 0 17 = σ7 0 17 := by rw [eσ29]; exact zq_up_ne (by omega)
        have t92 : σ7 0 17 = 0 := by rw [eσ7]; exact zq_up_same _ _ _ _
        exact zr_iret (pc := 43) hV dX12_readNamed_43 rfl rfl ⟨_, rfl, ⟨by decide, by decide⟩, hσ29, hFσ29, ⟨by omega, by omega, (by rw [(show zt_opR (zt_Hr σ o) (σ 10) (σ 0 14) (σ 0 15) = 5 from (by unfold zt_opR; repeat (first | rw [if_pos (by omega)] | rw [if_neg (by omega)]); all_goals omega))]; unfold zt_rc; repeat (first | rw [if_pos (by omega)] | rw [if_neg (by omega)]); all_goals omega), (by unfold zt_opA; repeat (first | rw [if_pos (by omega)] | rw [if_neg (by omega)]); all_goals omega), (fun h => by rw [(show zt_opR (zt_Hr σ o) (σ 10) (σ 0 14) (σ 0 15) = 5 from (by unfold zt_opR; repeat (first | rw [if_pos (by omega)] | rw [if_neg (by omega)]); all_goals omega))]; unfold zt_ru; repeat (first | rw [if_pos (by omega)] | rw [if_neg (by omega)]); all_goals omega)⟩⟩
      · exfalso; omega
set_option maxHeartbeats 800000 in
theorem c_X12_named2 {σ : zq_S} (hσ : zx_T σ) (name : Int) (q0 : zq_in name) : zq_C zx_w yX12_named cX12_named 3 (some .int) 0 0 41 41 [ZR 0, ZI name] σ (zq_pp σ (fun r => -4 ≤ r ∧ r < 20 ∧ (0 ≤ r → r < σ 0 3 ∧ σ 1 r = name) ∧ (r < 0 → ∀ i, 0 ≤ i → i < σ 0 3 → σ 1 i ≠ name))) := by
  refine zq_C_of (by decide) (Nat.le_refl _) (Nat.le_of_ble_eq_true rfl) [some (ZR 0), some (ZI name), none] rfl (fun V hV => ?_)
  show V 0 [some (ZR 0), some (ZI name), none] [] 41 σ
  refine zr_iconst (pc := 0) hV 0 dX12_named_0 rfl ?_
  refine zr_istore_n (pc := 1) hV [some (ZR 0), some (ZI name), some (ZI 0)] dX12_named_1 rfl (by decide) rfl rfl ?_
  have L2 : ∀ (fuel : Nat) (x2_2 : Int), (0 ≤ x2_2 ∧ x2_2 ≤ 20) → (zq_hid (∀ i, 0 ≤ i → i < x2_2 → σ 1 i ≠ name)) → 20 - x2_2 < (fuel : Int) → V 2 [some (ZR 0), some (ZI name), some (ZI x2_2)] [] 41 σ := by
    intro fuel
    induction fuel with
    | zero =>
      intro x2_2 hx2_2 hi2_0 hm2
      exfalso; omega
    | succ fuel ih =>
      intro x2_2 hx2_2 hi2_0 hm2
      have ih2 := ih
      show V 2 [some (ZR 0), some (ZI name), some (ZI x2_2)] [] 41 σ
      refine zr_iload_n (pc := 2) hV dX12_named_2 rfl rfl ?_
      refine zr_aload_n (pc := 3) hV dX12_named_3 rfl rfl ?_
      refine zr_getI (pc := 4) hV 3 dX12_named_4 fX12_150 rfl rfl rfl (by decide) ?_
      have t1 := zx_g3 hσ
      refine zr_icmp_ge (pc := 7) hV 28 dX12_named_7 (by decide) (by omega) (by omega) (fun c2 => ?_) (fun c2 => ?_)
      · show V 28 [some (ZR 0), some (ZI name), some (ZI x2_2)] [] 41 σ
        refine zr_bipush (pc := 28) hV (-4) dX12_named_28 (by decide) ?_
        exact zr_iret (pc := 30) hV dX12_named_30 rfl rfl ⟨rfl, _, rfl, ⟨by decide, by decide⟩, ⟨by omega, by omega, fun h => absurd h (by omega), fun _ i h0 h1 => hi2_0 i h0 (by omega)⟩⟩
      · show V 10 [some (ZR 0), some (ZI name), some (ZI x2_2)] [] 41 σ
        refine zr_aload_n (pc := 10) hV dX12_named_10 rfl rfl ?_
        refine zr_getR (pc := 11) hV 4 1 dX12_named_11 fX12_19 rfl rfl rfl (by decide) (zx_g4 hσ) (by omega) ?_
        refine zr_iload_n (pc := 14) hV dX12_named_14 rfl rfl ?_
        refine zr_iald (pc := 15) hV dX12_named_15 rfl (by decide) rfl (by omega) ?_
        have t3 := zx_ga1 hσ x2_2
        refine zr_iload_n (pc := 16) hV dX12_named_16 rfl rfl ?_
        refine zr_icmp_ne (pc := 17) hV 22 dX12_named_17 (by decide) (by omega) (by omega) (fun c4 => ?_) (fun c4 => ?_)
        · show V 22 [some (ZR 0), some (ZI name), some (ZI x2_2)] [] 41 σ
          refine zr_iinc (pc := 22) hV [some (ZR 0), some (ZI name), some (ZI (x2_2 + 1))] (x2_2 + 1) dX12_named_22 rfl rfl (by decide) rfl rfl ?_
          refine zr_goto (pc := 25) hV 2 dX12_named_25 (by decide) ?_
          exact ih2 (x2_2 + 1) (by omega) (fun i h0 h1 => if hc : i = x2_2 then (by rw [hc]; omega) else hi2_0 i h0 (by omega)) (by omega)
        · show V 20 [some (ZR 0), some (ZI name), some (ZI x2_2)] [] 41 σ
          refine zr_iload_n (pc := 20) hV dX12_named_20 rfl rfl ?_
          exact zr_iret (pc := 21) hV dX12_named_21 rfl rfl ⟨rfl, _, rfl, (by omega), ⟨by omega, by omega, fun _ => ⟨by omega, by omega⟩, fun h => absurd h (by omega)⟩⟩
  exact L2 (20 - (0 : Int) + 1 : Int).toNat 0 (by omega) (fun i h0 h1 => absurd h1 (by omega)) (by omega)
set_option maxHeartbeats 800000 in
theorem c_X12_readNewName2 {σ : zq_S} (hσ : zx_T σ)  : zq_C zx_w yX12_readNewName cX12_readNewName 2 (some .int) 2 47 41 41 [ZR 0] σ (zq_pi (fun r τ => zx_T τ ∧ (∀ a i : Int, (¬ (a = 0 ∧ i = 15) ∧ ¬ (a = 0 ∧ i = 16)) → τ a i = σ a i) ∧ (0 ≤ r ∧ r ≤ 19682 ∧ (r ≠ 0 → τ 0 15 = (zt_sk (σ 10) (σ 0 14) (σ 0 15)) + (zt_nl (σ 10) (σ 0 14) (zt_sk (σ 10) (σ 0 14) (σ 0 15)))) ∧ (r = 0 → τ 0 15 = (zt_sk (σ 10) (σ 0 14) (σ 0 15)))) ∧ zq_hid ((r ≠ 0 → r = (zt_nb (σ 10) (zt_sk (σ 10) (σ 0 14) (σ 0 15)) (zt_nl (σ 10) (σ 0 14) (zt_sk (σ 10) (σ 0 14) (σ 0 15)))) ∧ (zt_nl (σ 10) (σ 0 14) (zt_sk (σ 10) (σ 0 14) (σ 0 15))) ≠ 0 ∧ ∀ i, 0 ≤ i → i < σ 0 3 → σ 1 i ≠ (zt_nb (σ 10) (zt_sk (σ 10) (σ 0 14) (σ 0 15)) (zt_nl (σ 10) (σ 0 14) (zt_sk (σ 10) (σ 0 14) (σ 0 15))))) ∧ (r = 0 → (zt_nl (σ 10) (σ 0 14) (zt_sk (σ 10) (σ 0 14) (σ 0 15))) = 0 ∨ ∃ i, 0 ≤ i ∧ i < σ 0 3 ∧ σ 1 i = (zt_nb (σ 10) (zt_sk (σ 10) (σ 0 14) (σ 0 15)) (zt_nl (σ 10) (σ 0 14) (zt_sk (σ 10) (σ 0 14) (σ 0 15)))))))) := by
  refine zq_C_of (by decide) (Nat.le_refl _) (Nat.le_of_ble_eq_true rfl) [some (ZR 0), none] rfl (fun V hV => ?_)
  have z14 := zx_g14 hσ
  show V 0 [some (ZR 0), none] [] 41 σ
  refine zr_aload_n (pc := 0) hV dX12_readNewName_0 rfl rfl ?_
  refine zr_callVi (pc := 1) hV [] (st := []) (c_X12_readName2 (σ := σ) hσ ) dX12_readNewName_1 mX12_218 rfl (by decide) (by decide) (Nat.le_of_ble_eq_true rfl) (Nat.le_refl _) (fun r1 σ1 hr1 pσ1 => ?_)
  obtain ⟨hσ1, hfσ1, pσ1⟩ := pσ1
  have hFσ1 : ∀ a i : Int, (¬ (a = 0 ∧ i = 15) ∧ ¬ (a = 0 ∧ i = 16)) → σ1 a i = σ a i := fun a i h => (hfσ1 a i ⟨h.1, h.2⟩)
  have t1 := zx_g14 hσ
  have t2 := zx_g15 hσ
  have t3 := zx_g15 hσ1
  have t4 := zx_g16 hσ1
  have zbz := zt_nb_z (σ 10) (σ 0 14) (zt_sk (σ 10) (σ 0 14) (σ 0 15))
  refine zr_istore_n (pc := 4) hV [some (ZR 0), some (ZI r1)] dX12_readNewName_4 rfl (by decide) rfl rfl ?_
  refine zr_iload_n (pc := 5) hV dX12_readNewName_5 rfl rfl ?_
  refine zr_if_eq (pc := 6) hV 27 dX12_readNewName_6 (by decide) (by omega) (fun c5 => ?_) (fun c5 => ?_)
  · show V 27 [some (ZR 0), some (ZI r1)] [] 41 σ1
    refine zr_iload_n (pc := 27) hV dX12_readNewName_27 rfl rfl ?_
    have t6 := zx_g15 hσ1
    exact zr_iret (pc := 28) hV dX12_readNewName_28 rfl rfl ⟨_, rfl, (by omega), hσ1, hFσ1, (by omega), (show (r1 ≠ 0 → r1 = (zt_nb (σ 10) (zt_sk (σ 10) (σ 0 14) (σ 0 15)) (zt_nl (σ 10) (σ 0 14) (zt_sk (σ 10) (σ 0 14) (σ 0 15)))) ∧ (zt_nl (σ 10) (σ 0 14) (zt_sk (σ 10) (σ 0 14) (σ 0 15))) ≠ 0 ∧ ∀ i, 0 ≤ i → i < σ 0 3 → σ 1 i ≠ (zt_nb (σ 10) (zt_sk (σ 10) (σ 0 14) (σ 0 15)) (zt_nl (σ 10) (σ 0 14) (zt_sk (σ 10) (σ 0 14) (σ 0 15))))) ∧ (r1 = 0 → (zt_nl (σ 10) (σ 0 14) (zt_sk (σ 10) (σ 0 14) (σ 0 15))) = 0 ∨ ∃ i, 0 ≤ i ∧ i < σ 0 3 ∧ σ 1 i = (zt_nb (σ 10) (zt_sk (σ 10) (σ 0 14) (σ 0 15)) (zt_nl (σ 10) (σ 0 14) (zt_sk (σ 10) (σ 0 14) (σ 0 15))))) from ⟨fun h => absurd (by omega) h, fun _ => Or.inl (zbz.mp (by omega))⟩)⟩
  · show V 9 [some (ZR 0), some (ZI r1)] [] 41 σ1
    refine zr_aload_n (pc := 9) hV dX12_readNewName_9 rfl rfl ?_
    refine zr_iload_n (pc := 10) hV dX12_readNewName_10 rfl rfl ?_
    refine zr_callVp (pc := 11) hV [ZI r1] (st := []) (c_X12_named2 (σ := σ1) hσ1 r1 (by omega)) dX12_readNewName_11 mX12_221 rfl (by decide) (by decide) (Nat.le_of_ble_eq_true rfl) (Nat.le_refl _) (fun r11 hr11 pr11 => ?_)
    have t7 := zx_g3 hσ1
    have t8 : σ1 0 3 = σ 0 3 := hfσ1 _ _ (by omega)
    refine zr_if_lt (pc := 14) hV 27 dX12_readNewName_14 (by decide) (by omega) (fun c9 => ?_) (fun c9 => ?_)
    · show V 27 [some (ZR 0), some (ZI r1)] [] 41 σ1
      refine zr_iload_n (pc := 27) hV dX12_readNewName_27 rfl rfl ?_
      have t10 := zx_g15 hσ1
      exact zr_iret (pc := 28) hV dX12_readNewName_28 rfl rfl ⟨_, rfl, (by omega), hσ1, hFσ1, (by omega), (show (r1 ≠ 0 → r1 = (zt_nb (σ 10) (zt_sk (σ 10) (σ 0 14) (σ 0 15)) (zt_nl (σ 10) (σ 0 14) (zt_sk (σ 10) (σ 0 14) (σ 0 15)))) ∧ (zt_nl (σ 10) (σ 0 14) (zt_sk (σ 10) (σ 0 14) (σ 0 15))) ≠ 0 ∧ ∀ i, 0 ≤ i → i < σ 0 3 → σ 1 i ≠ (zt_nb (σ 10) (zt_sk (σ 10) (σ 0 14) (σ 0 15)) (zt_nl (σ 10) (σ 0 14) (zt_sk (σ 10) (σ 0 14) (σ 0 15))))) ∧ (r1 = 0 → (zt_nl (σ 10) (σ 0 14) (zt_sk (σ 10) (σ 0 14) (σ 0 15))) = 0 ∨ ∃ i, 0 ≤ i ∧ i < σ 0 3 ∧ σ 1 i = (zt_nb (σ 10) (zt_sk (σ 10) (σ 0 14) (σ 0 15)) (zt_nl (σ 10) (σ 0 14) (zt_sk (σ 10) (σ 0 14) (σ 0 15))))) from ⟨fun _ => ⟨by omega, fun q => absurd (zbz.mpr q) (by omega), fun i h0 h1 => by rw [← hfσ1 1 i (by omega), ← (show r1 = (zt_nb (σ 10) (zt_sk (σ 10) (σ 0 14) (σ 0 15)) (zt_nl (σ 10) (σ 0 14) (zt_sk (σ 10) (σ 0 14) (σ 0 15)))) by omega)]; exact pr11.2.2.2 (by omega) i h0 (by rw [hfσ1 0 3 (by omega)]; exact h1)⟩, fun h => absurd h (by omega)⟩)⟩
    · show V 17 [some (ZR 0), some (ZI r1)] [] 41 σ1
      refine zr_aload_n (pc := 17) hV dX12_readNewName_17 rfl rfl ?_
      refine zr_aload_n (pc := 18) hV dX12_readNewName_18 rfl rfl ?_
      refine zr_getI (pc := 19) hV 16 dX12_readNewName_19 fX12_211 rfl rfl rfl (by decide) ?_
      have t11 := zx_g16 hσ1
      refine zr_putI (pc := 22) hV 15 dX12_readNewName_22 fX12_200 rfl rfl rfl rfl (by decide) (fun σ22 eσ22 => ?_)
      have hσ22 : zx_T σ22 := zx_u15 eσ22 hσ1 (by omega)
      have hFσ22 : ∀ a i : Int, (¬ (a = 0 ∧ i = 15) ∧ ¬ (a = 0 ∧ i = 16)) → σ22 a i = σ a i := fun a i h => by rw [eσ22, zq_up_ne h.1]; exact hFσ1 a i h
      refine zr_iconst (pc := 25) hV 0 dX12_readNewName_25 rfl ?_
      have t12 := zx_g15 hσ22
      have t13 : σ22 0 15 = σ1 0 16 := by rw [eσ22]; exact zq_up_same _ _ _ _
      exact zr_iret (pc := 26) hV dX12_readNewName_26 rfl rfl ⟨_, rfl, ⟨by decide, by decide⟩, hσ22, hFσ22, (by omega), (show ((0 : Int) ≠ 0 → (0 : Int) = (zt_nb (σ 10) (zt_sk (σ 10) (σ 0 14) (σ 0 15)) (zt_nl (σ 10) (σ 0 14) (zt_sk (σ 10) (σ 0 14) (σ 0 15)))) ∧ (zt_nl (σ 10) (σ 0 14) (zt_sk (σ 10) (σ 0 14) (σ 0 15))) ≠ 0 ∧ ∀ i, 0 ≤ i → i < σ 0 3 → σ 1 i ≠ (zt_nb (σ 10) (zt_sk (σ 10) (σ 0 14) (σ 0 15)) (zt_nl (σ 10) (σ 0 14) (zt_sk (σ 10) (σ 0 14) (σ 0 15))))) ∧ ((0 : Int) = 0 → (zt_nl (σ 10) (σ 0 14) (zt_sk (σ 10) (σ 0 14) (σ 0 15))) = 0 ∨ ∃ i, 0 ≤ i ∧ i < σ 0 3 ∧ σ 1 i = (zt_nb (σ 10) (zt_sk (σ 10) (σ 0 14) (σ 0 15)) (zt_nl (σ 10) (σ 0 14) (zt_sk (σ 10) (σ 0 14) (σ 0 15))))) from ⟨fun h => absurd rfl h, fun _ => Or.inr ⟨r11, by omega, by rw [← hfσ1 0 3 (by omega)]; omega, by rw [← hfσ1 1 r11 (by omega)]; omega⟩⟩)⟩
