set_option maxHeartbeats 800000 in
theorem c_X2_aheadIn_2 {σ : zq_S} (hσ : zc_T σ) (slot : Int) (q0 : 0 ≤ slot ∧ slot ≤ 9) (q1 : zq_hid (zn_H σ)) : zq_C zc_w yX2_aheadIn cX2_aheadIn 2 (some .int) 0 0 284 284 [ZR 134, ZI slot] σ (zq_pi (fun r τ => zc_T τ ∧ zc_Fr [(134, 5), (135, -1), (138, -1)] σ τ ∧ (((-1) ≤ r ∧ r ≤ 3)) ∧ zq_hid (zn_G σ τ ∧ r = τ 135 slot ∧ 0 ≤ r ∧ r < zn_v slot))) := by
  refine zq_C_of (by decide) (Nat.le_refl _) (Nat.le_of_ble_eq_true rfl) [some (ZR 134), some (ZI slot)] rfl (fun V hV => ?_)
  have hFσ := zc_Fr_rf [(134, 5), (135, -1), (138, -1)] σ
  show V 0 [some (ZR 134), some (ZI slot)] [] 284 σ
  refine zr_aload_n (pc := 0) hV dX2_aheadIn_0 rfl rfl ?_
  refine zr_getR (pc := 1) hV 1 135 dX2_aheadIn_1 fX2_11 rfl rfl (zc_k134 zc_s134) (zc_pos zc_s134 rfl) (zc_g134_1 hσ zc_s134) (by decide) ?_
  refine zr_iload_n (pc := 4) hV dX2_aheadIn_4 rfl rfl ?_
  refine zr_iald (pc := 5) hV dX2_aheadIn_5 (zc_k135 zc_s135) (zc_pos zc_s135 rfl) rfl (by omega) ?_
  have t1 := zc_ga135 hσ zc_s135 slot
  refine zr_iconst (pc := 6) hV (-1) dX2_aheadIn_6 rfl ?_
  refine zr_icmp_ne (pc := 7) hV 43 dX2_aheadIn_7 (by decide) (by omega) ⟨by decide, by decide⟩ (fun c2 => ?_) (fun c2 => ?_)
  · show V 43 [some (ZR 134), some (ZI slot)] [] 284 σ
    refine zr_aload_n (pc := 43) hV dX2_aheadIn_43 rfl rfl ?_
    refine zr_getR (pc := 44) hV 1 135 dX2_aheadIn_44 fX2_11 rfl rfl (zc_k134 zc_s134) (zc_pos zc_s134 rfl) (zc_g134_1 hσ zc_s134) (by decide) ?_
    refine zr_iload_n (pc := 47) hV dX2_aheadIn_47 rfl rfl ?_
    refine zr_iald (pc := 48) hV dX2_aheadIn_48 (zc_k135 zc_s135) (zc_pos zc_s135 rfl) rfl (by omega) ?_
    have t3 := zc_ga135 hσ zc_s135 slot
    exact zr_iret (pc := 49) hV dX2_aheadIn_49 rfl rfl ⟨_, rfl, (by omega), hσ, hFσ, (by omega), (show zn_G σ σ ∧ (σ 135 slot) = σ 135 slot ∧ 0 ≤ (σ 135 slot) ∧ (σ 135 slot) < zn_v slot from (by by_cases c : σ 135 slot = -1; (have z := zn_open_k q1 (by omega) (by omega) c; exfalso; omega); exact zn_ahead_o q1 (by omega) (by omega) c))⟩
  · show V 10 [some (ZR 134), some (ZI slot)] [] 284 σ
    refine zr_aload_n (pc := 10) hV dX2_aheadIn_10 rfl rfl ?_
    refine zr_getI (pc := 11) hV 5 dX2_aheadIn_11 fX2_34 rfl rfl (zc_k134 zc_s134) (zc_pos zc_s134 rfl) ?_
    have t4 := zc_g134_5 hσ zc_s134
    refine zr_bipush (pc := 14) hV 10 dX2_aheadIn_14 (by decide) ?_
    refine zr_icmp_ge (pc := 16) hV 43 dX2_aheadIn_16 (by decide) (by omega) ⟨by decide, by decide⟩ (fun c5 => ?_) (fun c5 => ?_)
    · show V 43 [some (ZR 134), some (ZI slot)] [] 284 σ
      refine zr_aload_n (pc := 43) hV dX2_aheadIn_43 rfl rfl ?_
      refine zr_getR (pc := 44) hV 1 135 dX2_aheadIn_44 fX2_11 rfl rfl (zc_k134 zc_s134) (zc_pos zc_s134 rfl) (zc_g134_1 hσ zc_s134) (by decide) ?_
      refine zr_iload_n (pc := 47) hV dX2_aheadIn_47 rfl rfl ?_
      refine zr_iald (pc := 48) hV dX2_aheadIn_48 (zc_k135 zc_s135) (zc_pos zc_s135 rfl) rfl (by omega) ?_
      have t6 := zc_ga135 hσ zc_s135 slot
      exact zr_iret (pc := 49) hV dX2_aheadIn_49 rfl rfl ⟨_, rfl, (by omega), hσ, hFσ, (by omega), (show zn_G σ σ ∧ (σ 135 slot) = σ 135 slot ∧ 0 ≤ (σ 135 slot) ∧ (σ 135 slot) < zn_v slot from (by by_cases c : σ 135 slot = -1; (have z := zn_open_k q1 (by omega) (by omega) c; exfalso; omega); exact zn_ahead_o q1 (by omega) (by omega) c))⟩
    · show V 19 [some (ZR 134), some (ZI slot)] [] 284 σ
      refine zr_aload_n (pc := 19) hV dX2_aheadIn_19 rfl rfl ?_
      refine zr_getR (pc := 20) hV 1 135 dX2_aheadIn_20 fX2_11 rfl rfl (zc_k134 zc_s134) (zc_pos zc_s134 rfl) (zc_g134_1 hσ zc_s134) (by decide) ?_
      refine zr_iload_n (pc := 23) hV dX2_aheadIn_23 rfl rfl ?_
      refine zr_iconst (pc := 24) hV 0 dX2_aheadIn_24 rfl ?_
      refine zr_iast (pc := 25) hV dX2_aheadIn_25 (zc_k135 zc_s135) (zc_pos zc_s135 rfl) rfl (by omega) (fun σ25 eσ25 => ?_)
      have hσ25 : zc_T σ25 := zc_ua135 eσ25 hσ zc_s135 (by omega)
      have hFσ25 := zc_Fa eσ25 zc_s135 rfl hFσ
      refine zr_aload_n (pc := 26) hV dX2_aheadIn_26 rfl rfl ?_
      refine zr_getR (pc := 27) hV 4 138 dX2_aheadIn_27 fX2_21 rfl rfl (zc_k134 zc_s134) (zc_pos zc_s134 rfl) (zc_g134_4 hσ25 zc_s134) (by decide) ?_
      refine zr_aload_n (pc := 30) hV dX2_aheadIn_30 rfl rfl ?_
      refine zr_dup (pc := 31) hV dX2_aheadIn_31 (fun _ => rfl) ?_
      refine zr_getI (pc := 32) hV 5 dX2_aheadIn_32 fX2_34 rfl rfl (zc_k134 zc_s134) (zc_pos zc_s134 rfl) ?_
      have t7 := zc_g134_5 hσ25 zc_s134
      have t8 : σ25 134 5 = σ 134 5 := by rw [eσ25]; exact zq_up_ne (zc_dk zc_s134 zc_s135 rfl)
      refine zr_dup_x1 (pc := 35) hV dX2_aheadIn_35 (fun _ => rfl) (fun _ => rfl) ?_
      refine zr_iconst (pc := 36) hV 1 dX2_aheadIn_36 rfl ?_
      refine zr_iadd (pc := 37) hV dX2_aheadIn_37 ?_
      refine zr_putI (pc := 38) hV 5 dX2_aheadIn_38 fX2_34 rfl rfl rfl (zc_k134 zc_s134) (zc_pos zc_s134 rfl) (fun σ38 eσ38 => ?_)
      have hσ38 : zc_T σ38 := zc_u134_5 eσ38 hσ25 zc_s134 (by omega)
      have hFσ38 := zc_Fw eσ38 zc_s134 rfl hFσ25
      refine zr_iload_n (pc := 41) hV dX2_aheadIn_41 rfl rfl ?_
      refine zr_iast (pc := 42) hV dX2_aheadIn_42 (zc_k138 zc_s138) (zc_pos zc_s138 rfl) rfl (by omega) (fun σ42 eσ42 => ?_)
      have hσ42 : zc_T σ42 := zc_ua138 eσ42 hσ38 zc_s138 (by omega)
      have hFσ42 := zc_Fa eσ42 zc_s138 rfl hFσ38
      show V 43 [some (ZR 134), some (ZI slot)] [] 284 σ42
      refine zr_aload_n (pc := 43) hV dX2_aheadIn_43 rfl rfl ?_
      refine zr_getR (pc := 44) hV 1 135 dX2_aheadIn_44 fX2_11 rfl rfl (zc_k134 zc_s134) (zc_pos zc_s134 rfl) (zc_g134_1 hσ42 zc_s134) (by decide) ?_
      refine zr_iload_n (pc := 47) hV dX2_aheadIn_47 rfl rfl ?_
      refine zr_iald (pc := 48) hV dX2_aheadIn_48 (zc_k135 zc_s135) (zc_pos zc_s135 rfl) rfl (by omega) ?_
      have t9 := zc_ga135 hσ42 zc_s135 slot
      have t10 : σ42 135 slot = σ38 135 slot := by rw [eσ42]; exact zq_up_ne (zc_dk zc_s135 zc_s138 rfl)
      have t11 : σ38 135 slot = σ25 135 slot := by rw [eσ38]; exact zq_up_ne (zc_dk zc_s135 zc_s134 rfl)
      have t12 : σ25 135 slot = 0 := by rw [eσ25]; exact zq_up_same _ _ _ _
      exact zr_iret (pc := 49) hV dX2_aheadIn_49 rfl rfl ⟨_, rfl, (by omega), hσ42, hFσ42, (by omega), (show zn_G σ σ42 ∧ (σ42 135 slot) = σ42 135 slot ∧ 0 ≤ (σ42 135 slot) ∧ (σ42 135 slot) < zn_v slot from (zn_ahead_p (by omega) (by omega) (by omega) eσ25 eσ38 eσ42))⟩
set_option maxHeartbeats 800000 in
theorem c_X2_inSlot_2 {σ : zq_S} (hσ : zc_T σ) (slot : Int) (q0 : 0 ≤ slot ∧ slot ≤ 9) (q1 : zq_hid (zn_H σ)) (q2 : zq_hid (zn_Bh σ)) : zq_C zc_w yX2_inSlot cX2_inSlot 2 (some .int) 1 21 284 284 [ZR 134, ZI slot] σ (zq_pi (fun r τ => zc_T τ ∧ zc_Fr [(134, 5), (135, -1), (138, -1)] σ τ ∧ (((-1) ≤ r ∧ r ≤ 3)) ∧ zq_hid (zn_G σ τ ∧ (0 ≤ r ∧ r < zn_v slot) ∧ ∀ s, zn_cp τ s → r = zn_cv σ s slot))) := by
  refine zq_C_of (by decide) (Nat.le_refl _) (Nat.le_of_ble_eq_true rfl) [some (ZR 134), some (ZI slot)] rfl (fun V hV => ?_)
  have hFσ := zc_Fr_rf [(134, 5), (135, -1), (138, -1)] σ
  show V 0 [some (ZR 134), some (ZI slot)] [] 284 σ
  refine zr_iload_n (pc := 0) hV dX2_inSlot_0 rfl rfl ?_
  refine zr_bipush (pc := 1) hV 9 dX2_inSlot_1 (by decide) ?_
  refine zr_icmp_ge (pc := 3) hV 25 dX2_inSlot_3 (by decide) (by omega) ⟨by decide, by decide⟩ (fun c1 => ?_) (fun c1 => ?_)
  · show V 25 [some (ZR 134), some (ZI slot)] [] 284 σ
    refine zr_aload_n (pc := 25) hV dX2_inSlot_25 rfl rfl ?_
    refine zr_iload_n (pc := 26) hV dX2_inSlot_26 rfl rfl ?_
    refine zr_callVi (pc := 27) hV [ZI slot] (st := []) (c_X2_aheadIn_2 (σ := σ) hσ slot (by omega) q1) dX2_inSlot_27 mX2_41 (zc_k134 zc_s134) (zc_pos zc_s134 rfl) (by decide) (Nat.le_of_ble_eq_true rfl) (Nat.le_refl _) (fun r27 σ27 hr27 pσ27 => ?_)
    obtain ⟨hσ27, hfσ27, pσ27, wσ27⟩ := pσ27
    have hFσ27 := zc_Fc hfσ27 rfl hFσ
    show V 30 [some (ZR 134), some (ZI slot)] [ZI r27] 284 σ27
    exact zr_iret (pc := 30) hV dX2_inSlot_30 rfl rfl ⟨_, rfl, (by omega), hσ27, hFσ27, (by omega), (show zn_G σ σ27 ∧ (0 ≤ r27 ∧ r27 < zn_v slot) ∧ ∀ s, zn_cp σ27 s → r27 = zn_cv σ s slot from (zn_in_a (by omega) (by omega) (by omega) wσ27))⟩
  · show V 6 [some (ZR 134), some (ZI slot)] [] 284 σ
    refine zr_aload_n (pc := 6) hV dX2_inSlot_6 rfl rfl ?_
    refine zr_getR (pc := 7) hV 2 136 dX2_inSlot_7 fX2_15 rfl rfl (zc_k134 zc_s134) (zc_pos zc_s134 rfl) (zc_g134_2 hσ zc_s134) (by decide) ?_
    refine zr_iload_n (pc := 10) hV dX2_inSlot_10 rfl rfl ?_
    refine zr_iald (pc := 11) hV dX2_inSlot_11 (zc_k136 zc_s136) (zc_pos zc_s136 rfl) rfl (by omega) ?_
    have t2 := zc_ga136 hσ zc_s136 slot
    refine zr_iconst (pc := 12) hV (-1) dX2_inSlot_12 rfl ?_
    refine zr_icmp_eq (pc := 13) hV 25 dX2_inSlot_13 (by decide) (by omega) ⟨by decide, by decide⟩ (fun c3 => ?_) (fun c3 => ?_)
    · show V 25 [some (ZR 134), some (ZI slot)] [] 284 σ
      refine zr_aload_n (pc := 25) hV dX2_inSlot_25 rfl rfl ?_
      refine zr_iload_n (pc := 26) hV dX2_inSlot_26 rfl rfl ?_
      refine zr_callVi (pc := 27) hV [ZI slot] (st := []) (c_X2_aheadIn_2 (σ := σ) hσ slot (by omega) q1) dX2_inSlot_27 mX2_41 (zc_k134 zc_s134) (zc_pos zc_s134 rfl) (by decide) (Nat.le_of_ble_eq_true rfl) (Nat.le_refl _) (fun r27 σ27 hr27 pσ27 => ?_)
      obtain ⟨hσ27, hfσ27, pσ27, wσ27⟩ := pσ27
      have hFσ27 := zc_Fc hfσ27 rfl hFσ
      show V 30 [some (ZR 134), some (ZI slot)] [ZI r27] 284 σ27
      exact zr_iret (pc := 30) hV dX2_inSlot_30 rfl rfl ⟨_, rfl, (by omega), hσ27, hFσ27, (by omega), (show zn_G σ σ27 ∧ (0 ≤ r27 ∧ r27 < zn_v slot) ∧ ∀ s, zn_cp σ27 s → r27 = zn_cv σ s slot from (zn_in_a (by omega) (by omega) (by omega) wσ27))⟩
    · show V 16 [some (ZR 134), some (ZI slot)] [] 284 σ
      refine zr_aload_n (pc := 16) hV dX2_inSlot_16 rfl rfl ?_
      refine zr_getR (pc := 17) hV 2 136 dX2_inSlot_17 fX2_15 rfl rfl (zc_k134 zc_s134) (zc_pos zc_s134 rfl) (zc_g134_2 hσ zc_s134) (by decide) ?_
      refine zr_iload_n (pc := 20) hV dX2_inSlot_20 rfl rfl ?_
      refine zr_iald (pc := 21) hV dX2_inSlot_21 (zc_k136 zc_s136) (zc_pos zc_s136 rfl) rfl (by omega) ?_
      have t4 := zc_ga136 hσ zc_s136 slot
      refine zr_goto (pc := 22) hV 30 dX2_inSlot_22 (by decide) ?_
      show V 30 [some (ZR 134), some (ZI slot)] [ZI (σ 136 slot)] 284 σ
      exact zr_iret (pc := 30) hV dX2_inSlot_30 rfl rfl ⟨_, rfl, (by omega), hσ, hFσ, (by omega), (show zn_G σ σ ∧ (0 ≤ (σ 136 slot) ∧ (σ 136 slot) < zn_v slot) ∧ ∀ s, zn_cp σ s → (σ 136 slot) = zn_cv σ s slot from (zn_in_b q2 (by omega) (by omega) (by omega)))⟩
set_option maxHeartbeats 800000 in
theorem c_X2_slotOf_2 {σ : zq_S} (store : Int) (q0 : zq_in store) : zq_C zc_w yX2_slotOf cX2_slotOf 1 (some .int) 0 0 284 284 [ZI store] σ (zq_pp σ (fun r => (0 ≤ r ∧ r ≤ 9) ∧ r = zn_sl store)) := by
  refine zq_C_of (by decide) (Nat.le_refl _) (Nat.le_of_ble_eq_true rfl) [some (ZI store)] rfl (fun V hV => ?_)
  show V 0 [some (ZI store)] [] 284 σ
  refine zr_iload_n (pc := 0) hV dX2_slotOf_0 rfl rfl ?_
  by_cases c1 : store = 1
  · refine zr_eqI (V := V) 1 c1 ?_
    refine zr_tableIn (pc := 1) hV 36 dX2_slotOf_1 ⟨by decide, by decide⟩ (by decide) (by decide) rfl (by decide) ?_
    show V 36 [some (ZI store)] [] 284 σ
    refine zr_iconst (pc := 36) hV 1 dX2_slotOf_36 rfl ?_
    exact zr_iret (pc := 37) hV dX2_slotOf_37 rfl rfl ⟨rfl, _, rfl, ⟨by decide, by decide⟩, ⟨by omega, (by unfold zn_sl; repeat (first | rw [if_pos (by omega)] | rw [if_neg (by omega)]))⟩⟩
  by_cases c2 : store = 2
  · refine zr_eqI (V := V) 2 c2 ?_
    refine zr_tableIn (pc := 1) hV 38 dX2_slotOf_1 ⟨by decide, by decide⟩ (by decide) (by decide) rfl (by decide) ?_
    show V 38 [some (ZI store)] [] 284 σ
    refine zr_iconst (pc := 38) hV 2 dX2_slotOf_38 rfl ?_
    exact zr_iret (pc := 39) hV dX2_slotOf_39 rfl rfl ⟨rfl, _, rfl, ⟨by decide, by decide⟩, ⟨by omega, (by unfold zn_sl; repeat (first | rw [if_pos (by omega)] | rw [if_neg (by omega)]))⟩⟩
  by_cases c3 : store = 3
  · refine zr_eqI (V := V) 3 c3 ?_
    refine zr_tableIn (pc := 1) hV 40 dX2_slotOf_1 ⟨by decide, by decide⟩ (by decide) (by decide) rfl (by decide) ?_
    show V 40 [some (ZI store)] [] 284 σ
    refine zr_bipush (pc := 40) hV 9 dX2_slotOf_40 (by decide) ?_
    exact zr_iret (pc := 42) hV dX2_slotOf_42 rfl rfl ⟨rfl, _, rfl, ⟨by decide, by decide⟩, ⟨by omega, (by unfold zn_sl; repeat (first | rw [if_pos (by omega)] | rw [if_neg (by omega)]))⟩⟩
  by_cases c4 : store = 4
  · refine zr_eqI (V := V) 4 c4 ?_
    refine zr_tableIn (pc := 1) hV 43 dX2_slotOf_1 ⟨by decide, by decide⟩ (by decide) (by decide) rfl (by decide) ?_
    show V 43 [some (ZI store)] [] 284 σ
    refine zr_iconst (pc := 43) hV 3 dX2_slotOf_43 rfl ?_
    exact zr_iret (pc := 44) hV dX2_slotOf_44 rfl rfl ⟨rfl, _, rfl, ⟨by decide, by decide⟩, ⟨by omega, (by unfold zn_sl; repeat (first | rw [if_pos (by omega)] | rw [if_neg (by omega)]))⟩⟩
  by_cases c5 : store = 5
  · refine zr_eqI (V := V) 5 c5 ?_
    refine zr_tableIn (pc := 1) hV 45 dX2_slotOf_1 ⟨by decide, by decide⟩ (by decide) (by decide) rfl (by decide) ?_
    show V 45 [some (ZI store)] [] 284 σ
    refine zr_iconst (pc := 45) hV 4 dX2_slotOf_45 rfl ?_
    exact zr_iret (pc := 46) hV dX2_slotOf_46 rfl rfl ⟨rfl, _, rfl, ⟨by decide, by decide⟩, ⟨by omega, (by unfold zn_sl; repeat (first | rw [if_pos (by omega)] | rw [if_neg (by omega)]))⟩⟩
  refine zr_tableOut (pc := 1) hV 47 dX2_slotOf_1 (by omega) (by omega) (by decide) ?_
  show V 47 [some (ZI store)] [] 284 σ
  refine zr_iconst (pc := 47) hV 0 dX2_slotOf_47 rfl ?_
  exact zr_iret (pc := 48) hV dX2_slotOf_48 rfl rfl ⟨rfl, _, rfl, ⟨by decide, by decide⟩, ⟨by omega, (by unfold zn_sl; repeat (first | rw [if_pos (by omega)] | rw [if_neg (by omega)]))⟩⟩
set_option maxHeartbeats 800000 in
theorem c_X2_wordOf_2 {σ : zq_S} (hσ : zc_T σ) (operand : Int) (q0 : 0 ≤ operand ∧ operand ≤ 271) (q1 : zc_op operand) (q2 : zq_hid (zn_H σ)) (q3 : zq_hid (zn_Bh σ)) : zq_C zc_w yX2_wordOf cX2_wordOf 3 (some .int) 2 42 284 284 [ZR 134, ZI operand] σ (zq_pi (fun r τ => zc_T τ ∧ zc_Fr [(134, 5), (135, -1), (138, -1)] σ τ ∧ (True) ∧ zq_hid (zn_G σ τ ∧ (0 ≤ r ∧ r ≤ 3) ∧ ∀ s, zn_st s → zn_cp τ s → r = zw_va (zn_F (s 9)) (zn_row (zn_cv σ s)) 3 (zt_rc operand) (zt_ru operand)))) := by
  refine zq_C_of (by decide) (Nat.le_refl _) (Nat.le_of_ble_eq_true rfl) [some (ZR 134), some (ZI operand), none] rfl (fun V hV => ?_)
  have hFσ := zc_Fr_rf [(134, 5), (135, -1), (138, -1)] σ
  have uo : operand ≤ 9 ∨ 16 ≤ operand := q1
  have H3 := zn_H_3 q2
  show V 0 [some (ZR 134), some (ZI operand), none] [] 284 σ
  refine zr_iload_n (pc := 0) hV dX2_wordOf_0 rfl rfl ?_
  refine zr_bipush (pc := 1) hV 16 dX2_wordOf_1 (by decide) ?_
  refine zr_icmp_lt (pc := 3) hV 16 dX2_wordOf_3 (by decide) (by omega) ⟨by decide, by decide⟩ (fun c1 => ?_) (fun c1 => ?_)
  · show V 16 [some (ZR 134), some (ZI operand), none] [] 284 σ
    refine zr_aload_n (pc := 16) hV dX2_wordOf_16 rfl rfl ?_
    refine zr_iload_n (pc := 17) hV dX2_wordOf_17 rfl rfl ?_
    refine zr_bipush (pc := 18) hV 6 dX2_wordOf_18 (by decide) ?_
    refine zr_icmp_lt (pc := 20) hV 30 dX2_wordOf_20 (by decide) (by omega) ⟨by decide, by decide⟩ (fun c2 => ?_) (fun c2 => ?_)
    · show V 30 [some (ZR 134), some (ZI operand), none] [ZR 134] 284 σ
      refine zr_iload_n (pc := 30) hV dX2_wordOf_30 rfl rfl ?_
      show V 31 [some (ZR 134), some (ZI operand), none] [ZI operand, ZR 134] 284 σ
      refine zr_callSp (pc := 31) hV [ZI operand] (st := [ZR 134]) (c_X2_slotOf_2 (σ := σ) operand (by omega)) dX2_wordOf_31 mX2_44 (by decide) (Nat.le_of_ble_eq_true rfl) (Nat.le_refl _) (fun r31 hr31 pr31 => ?_)
      refine zr_callVi (pc := 34) hV [ZI r31] (st := []) (c_X2_inSlot_2 (σ := σ) hσ r31 (by omega) q2 q3) dX2_wordOf_34 mX2_47 (zc_k134 zc_s134) (zc_pos zc_s134 rfl) (by decide) (Nat.le_of_ble_eq_true rfl) (Nat.le_refl _) (fun r34 σ34 hr34 pσ34 => ?_)
      obtain ⟨hσ34, hfσ34, pσ34, wσ34⟩ := pσ34
      have hFσ34 := zc_Fc hfσ34 rfl hFσ
      refine zr_istore_n (pc := 37) hV [some (ZR 134), some (ZI operand), some (ZI r34)] dX2_wordOf_37 rfl (by decide) rfl rfl ?_
      refine zr_iload_n (pc := 38) hV dX2_wordOf_38 rfl rfl ?_
      refine zr_bipush (pc := 39) hV 6 dX2_wordOf_39 (by decide) ?_
      refine zr_icmp_lt (pc := 41) hV 59 dX2_wordOf_41 (by decide) (by omega) ⟨by decide, by decide⟩ (fun c3 => ?_) (fun c3 => ?_)
      · show V 59 [some (ZR 134), some (ZI operand), some (ZI r34)] [] 284 σ34
        refine zr_iload_n (pc := 59) hV dX2_wordOf_59 rfl rfl ?_
        show V 60 [some (ZR 134), some (ZI operand), some (ZI r34)] [ZI r34] 284 σ34
        exact zr_iret (pc := 60) hV dX2_wordOf_60 rfl rfl ⟨_, rfl, (by omega), hσ34, hFσ34, trivial, (show zn_G σ σ34 ∧ (0 ≤ r34 ∧ r34 ≤ 3) ∧ ∀ s, zn_st s → zn_cp σ34 s → r34 = zw_va (zn_F (s 9)) (zn_row (zn_cv σ s)) 3 (zt_rc operand) (zt_ru operand) from (zn_wo_s (by omega) (by have w := wσ34; unfold zq_hid at w; rw [pr31.2] at w; exact w)))⟩
      · exfalso; omega
    · show V 23 [some (ZR 134), some (ZI operand), none] [ZR 134] 284 σ
      refine zr_iload_n (pc := 23) hV dX2_wordOf_23 rfl rfl ?_
      refine zr_bipush (pc := 24) hV 6 dX2_wordOf_24 (by decide) ?_
      refine zr_isub (pc := 26) hV dX2_wordOf_26 ?_
      refine zr_goto (pc := 27) hV 31 dX2_wordOf_27 (by decide) ?_
      show V 31 [some (ZR 134), some (ZI operand), none] [ZI (operand - 6), ZR 134] 284 σ
      refine zr_callSp (pc := 31) hV [ZI (operand - 6)] (st := [ZR 134]) (c_X2_slotOf_2 (σ := σ) (operand - 6) (by omega)) dX2_wordOf_31 mX2_44 (by decide) (Nat.le_of_ble_eq_true rfl) (Nat.le_refl _) (fun r31 hr31 pr31 => ?_)
      refine zr_callVi (pc := 34) hV [ZI r31] (st := []) (c_X2_inSlot_2 (σ := σ) hσ r31 (by omega) q2 q3) dX2_wordOf_34 mX2_47 (zc_k134 zc_s134) (zc_pos zc_s134 rfl) (by decide) (Nat.le_of_ble_eq_true rfl) (Nat.le_refl _) (fun r34 σ34 hr34 pσ34 => ?_)
      obtain ⟨hσ34, hfσ34, pσ34, wσ34⟩ := pσ34
      have hFσ34 := zc_Fc hfσ34 rfl hFσ
      refine zr_istore_n (pc := 37) hV [some (ZR 134), some (ZI operand), some (ZI r34)] dX2_wordOf_37 rfl (by decide) rfl rfl ?_
      refine zr_iload_n (pc := 38) hV dX2_wordOf_38 rfl rfl ?_
      refine zr_bipush (pc := 39) hV 6 dX2_wordOf_39 (by decide) ?_
      refine zr_icmp_lt (pc := 41) hV 59 dX2_wordOf_41 (by decide) (by omega) ⟨by decide, by decide⟩ (fun c4 => ?_) (fun c4 => ?_)
      · exfalso; omega
      · show V 44 [some (ZR 134), some (ZI operand), some (ZI r34)] [] 284 σ34
        refine zr_aload_n (pc := 44) hV dX2_wordOf_44 rfl rfl ?_
        refine zr_iconst (pc := 45) hV 5 dX2_wordOf_45 rfl ?_
        refine zr_iload_n (pc := 46) hV dX2_wordOf_46 rfl rfl ?_
        refine zr_aload_n (pc := 47) hV dX2_wordOf_47 rfl rfl ?_
        refine zr_getI (pc := 48) hV 0 dX2_wordOf_48 fX2_24 rfl rfl (zc_k134 zc_s134) (zc_pos zc_s134 rfl) ?_
        have t5 := zc_g134_0 hσ34 zc_s134
        have t6 : σ34 134 0 = σ 134 0 := hfσ34 _ _ (zc_out_at zc_s134 rfl)
        refine zr_iand (pc := 51) hV dX2_wordOf_51 ?_
        have t7 := zq_and_nnR (x := r34) (y := σ34 134 0) (by omega)
        refine zr_iadd (pc := 52) hV dX2_wordOf_52 ?_
        have b34 := wσ34.2.1
        have vb34 := zn_v_b r31
        have m34 : σ34 134 0 = 3 := (hfσ34 134 0 (zc_out_at zc_s134 rfl)).trans H3
        have a34 : zq_and r34 (σ34 134 0) = r34 := by rw [m34]; exact zn_m3.1.2.2 r34 (by omega) (by omega)
        have t8 := zc_g134_0 hσ34 zc_s134
        have t9 : σ34 134 0 = σ 134 0 := hfσ34 _ _ (zc_out_at zc_s134 rfl)
        refine zr_callVi (pc := 53) hV [ZI (5 + (zq_and r34 (σ34 134 0)))] (st := []) (c_X2_inSlot_2 (σ := σ34) hσ34 (5 + (zq_and r34 (σ34 134 0))) (by omega) (zn_H_G q2 wσ34.1) (zn_Bh_c (fun i => hfσ34 136 i (zc_out_ar zc_s136 rfl)) q3)) dX2_wordOf_53 mX2_47 (zc_k134 zc_s134) (zc_pos zc_s134 rfl) (by decide) (Nat.le_of_ble_eq_true rfl) (Nat.le_refl _) (fun r53 σ53 hr53 pσ53 => ?_)
        obtain ⟨hσ53, hfσ53, pσ53, wσ53⟩ := pσ53
        have hFσ53 := zc_Fc hfσ53 rfl hFσ34
        have t10 := zc_g134_0 hσ34 zc_s134
        have t11 : σ34 134 0 = σ 134 0 := hfσ34 _ _ (zc_out_at zc_s134 rfl)
        refine zr_goto (pc := 56) hV 60 dX2_wordOf_56 (by decide) ?_
        show V 60 [some (ZR 134), some (ZI operand), some (ZI r34)] [ZI r53] 284 σ53
        exact zr_iret (pc := 60) hV dX2_wordOf_60 rfl rfl ⟨_, rfl, (by omega), hσ53, hFσ53, trivial, (show zn_G σ σ53 ∧ (0 ≤ r53 ∧ r53 ≤ 3) ∧ ∀ s, zn_st s → zn_cp σ53 s → r53 = zw_va (zn_F (s 9)) (zn_row (zn_cv σ s)) 3 (zt_rc operand) (zt_ru operand) from (zn_wo_m q2 (by omega) (by have w := wσ34; unfold zq_hid at w; rw [pr31.2] at w; exact w) (fun i => hfσ34 136 i (zc_out_ar zc_s136 rfl)) (by omega) wσ53))⟩
  · show V 6 [some (ZR 134), some (ZI operand), none] [] 284 σ
    refine zr_iload_n (pc := 6) hV dX2_wordOf_6 rfl rfl ?_
    refine zr_bipush (pc := 7) hV 16 dX2_wordOf_7 (by decide) ?_
    refine zr_isub (pc := 9) hV dX2_wordOf_9 ?_
    refine zr_aload_n (pc := 10) hV dX2_wordOf_10 rfl rfl ?_
    refine zr_getI (pc := 11) hV 0 dX2_wordOf_11 fX2_24 rfl rfl (zc_k134 zc_s134) (zc_pos zc_s134 rfl) ?_
    have t12 := zc_g134_0 hσ zc_s134
    refine zr_iand (pc := 14) hV dX2_wordOf_14 ?_
    have t13 := zq_and_nnR (x := operand - 16) (y := σ 134 0) (by omega)
    exact zr_iret (pc := 15) hV dX2_wordOf_15 rfl rfl ⟨_, rfl, (by omega), hσ, hFσ, trivial, (show zn_G σ σ ∧ (0 ≤ (zq_and (operand - 16) (σ 134 0)) ∧ (zq_and (operand - 16) (σ 134 0)) ≤ 3) ∧ ∀ s, zn_st s → zn_cp σ s → (zq_and (operand - 16) (σ 134 0)) = zw_va (zn_F (s 9)) (zn_row (zn_cv σ s)) 3 (zt_rc operand) (zt_ru operand) from (zn_wo_n (by omega) q2 rfl))⟩
set_option maxHeartbeats 800000 in
theorem c_X2_become_2 {σ : zq_S} (hσ : zc_T σ) (target : Int) (word : Int) (q0 : 0 ≤ target ∧ target ≤ 9) (q1 : zq_in word) (q2 : target ≠ 3) (q3 : 0 ≤ word ∧ word ≤ 3) (q4 : zq_hid (zn_H σ)) (q5 : zq_hid (zn_Bh σ)) : zq_C zc_w yX2_become cX2_become 4 (none) 2 42 284 284 [ZR 134, ZI target, ZI word] σ (zq_pv (fun τ => zc_T τ ∧ zc_Fr [(134, 5), (135, -1), (136, -1), (138, -1)] σ τ ∧ (True) ∧ zq_hid (zn_G σ τ ∧ zn_Bh τ ∧ ∀ s, zn_st s → zn_cp τ s → zn_row (zn_cv τ s) = zw_up (zn_row (zn_cv σ s)) (zw_ix (zn_F (s 9)) (zn_row (zn_cv σ s)) target) (zw_nv target word)))) := by
  refine zq_C_of (by decide) (Nat.le_refl _) (Nat.le_of_ble_eq_true rfl) [some (ZR 134), some (ZI target), some (ZI word), none] rfl (fun V hV => ?_)
  have hFσ := zc_Fr_rf [(134, 5), (135, -1), (136, -1), (138, -1)] σ
  have H3 := zn_H_3 q4
  show V 0 [some (ZR 134), some (ZI target), some (ZI word), none] [] 284 σ
  refine zr_iload_n (pc := 0) hV dX2_become_0 rfl rfl ?_
  refine zr_bipush (pc := 1) hV 6 dX2_become_1 (by decide) ?_
  refine zr_icmp_lt (pc := 3) hV 40 dX2_become_3 (by decide) (by omega) ⟨by decide, by decide⟩ (fun c1 => ?_) (fun c1 => ?_)
  · show V 40 [some (ZR 134), some (ZI target), some (ZI word), none] [] 284 σ
    refine zr_iload_n (pc := 40) hV dX2_become_40 rfl rfl ?_
    refine zr_iconst (pc := 41) hV 3 dX2_become_41 rfl ?_
    refine zr_icmp_eq (pc := 42) hV 77 dX2_become_42 (by decide) (by omega) ⟨by decide, by decide⟩ (fun c2 => ?_) (fun c2 => ?_)
    · show V 77 [some (ZR 134), some (ZI target), some (ZI word), none] [] 284 σ
      exact zr_vret (pc := 77) hV dX2_become_77 rfl rfl ⟨rfl, hσ, hFσ, trivial, (show zn_G σ σ ∧ zn_Bh σ ∧ ∀ s, zn_st s → zn_cp σ s → zn_row (zn_cv σ s) = zw_up (zn_row (zn_cv σ s)) (zw_ix (zn_F (s 9)) (zn_row (zn_cv σ s)) target) (zw_nv target word) from (by exfalso; omega))⟩
    · show V 45 [some (ZR 134), some (ZI target), some (ZI word), none] [] 284 σ
      refine zr_aload_n (pc := 45) hV dX2_become_45 rfl rfl ?_
      refine zr_getR (pc := 46) hV 2 136 dX2_become_46 fX2_15 rfl rfl (zc_k134 zc_s134) (zc_pos zc_s134 rfl) (zc_g134_2 hσ zc_s134) (by decide) ?_
      refine zr_iload_n (pc := 49) hV dX2_become_49 rfl rfl ?_
      refine zr_callSp (pc := 50) hV [ZI target] (st := [ZR 136]) (c_X2_slotOf_2 (σ := σ) target (by omega)) dX2_become_50 mX2_44 (by decide) (Nat.le_of_ble_eq_true rfl) (Nat.le_refl _) (fun r50 hr50 pr50 => ?_)
      have sl50 := zn_sl_b target ⟨by omega, by omega⟩
      refine zr_iload_n (pc := 53) hV dX2_become_53 rfl rfl ?_
      refine zr_iconst (pc := 54) hV 4 dX2_become_54 rfl ?_
      refine zr_icmp_ne (pc := 55) hV 70 dX2_become_55 (by decide) (by omega) ⟨by decide, by decide⟩ (fun c3 => ?_) (fun c3 => ?_)
      · show V 70 [some (ZR 134), some (ZI target), some (ZI word), none] [ZI r50, ZR 136] 284 σ
        refine zr_iload_n (pc := 70) hV dX2_become_70 rfl rfl ?_
        refine zr_aload_n (pc := 71) hV dX2_become_71 rfl rfl ?_
        refine zr_getI (pc := 72) hV 0 dX2_become_72 fX2_24 rfl rfl (zc_k134 zc_s134) (zc_pos zc_s134 rfl) ?_
        have t4 := zc_g134_0 hσ zc_s134
        refine zr_iand (pc := 75) hV dX2_become_75 ?_
        have t5 := zq_and_nnR (x := word) (y := σ 134 0) (by omega)
        show V 76 [some (ZR 134), some (ZI target), some (ZI word), none] [ZI (zq_and word (σ 134 0)), ZI r50, ZR 136] 284 σ
        refine zr_iast (pc := 76) hV dX2_become_76 (zc_k136 zc_s136) (zc_pos zc_s136 rfl) rfl (by omega) (fun σ76 eσ76 => ?_)
        have hσ76 : zc_T σ76 := zc_ua136 eσ76 hσ zc_s136 (by omega)
        have hFσ76 := zc_Fa eσ76 zc_s136 rfl hFσ
        show V 77 [some (ZR 134), some (ZI target), some (ZI word), none] [] 284 σ76
        exact zr_vret (pc := 77) hV dX2_become_77 rfl rfl ⟨rfl, hσ76, hFσ76, trivial, (show zn_G σ σ76 ∧ zn_Bh σ76 ∧ ∀ s, zn_st s → zn_cp σ76 s → zn_row (zn_cv σ76 s) = zw_up (zn_row (zn_cv σ s)) (zw_ix (zn_F (s 9)) (zn_row (zn_cv σ s)) target) (zw_nv target word) from (zn_be_s ⟨by omega, by omega, q2⟩ pr50.2 q5 eσ76 q3 (by first | (rw [if_pos (by omega), if_pos (by omega)]) | (rw [if_pos (by omega), if_neg (by omega)]) | (rw [if_neg (by omega), zn_H_3 q4]; exact zn_m3.1.2.2 word (by omega) (by omega)))))⟩
      · show V 58 [some (ZR 134), some (ZI target), some (ZI word), none] [ZI r50, ZR 136] 284 σ
        refine zr_iload_n (pc := 58) hV dX2_become_58 rfl rfl ?_
        refine zr_if_ne (pc := 59) hV 66 dX2_become_59 (by decide) (by omega) (fun c6 => ?_) (fun c6 => ?_)
        · show V 66 [some (ZR 134), some (ZI target), some (ZI word), none] [ZI r50, ZR 136] 284 σ
          refine zr_iconst (pc := 66) hV 1 dX2_become_66 rfl ?_
          refine zr_goto (pc := 67) hV 76 dX2_become_67 (by decide) ?_
          show V 76 [some (ZR 134), some (ZI target), some (ZI word), none] [ZI 1, ZI r50, ZR 136] 284 σ
          refine zr_iast (pc := 76) hV dX2_become_76 (zc_k136 zc_s136) (zc_pos zc_s136 rfl) rfl (by omega) (fun σ76 eσ76 => ?_)
          have hσ76 : zc_T σ76 := zc_ua136 eσ76 hσ zc_s136 (by omega)
          have hFσ76 := zc_Fa eσ76 zc_s136 rfl hFσ
          show V 77 [some (ZR 134), some (ZI target), some (ZI word), none] [] 284 σ76
          exact zr_vret (pc := 77) hV dX2_become_77 rfl rfl ⟨rfl, hσ76, hFσ76, trivial, (show zn_G σ σ76 ∧ zn_Bh σ76 ∧ ∀ s, zn_st s → zn_cp σ76 s → zn_row (zn_cv σ76 s) = zw_up (zn_row (zn_cv σ s)) (zw_ix (zn_F (s 9)) (zn_row (zn_cv σ s)) target) (zw_nv target word) from (zn_be_s ⟨by omega, by omega, q2⟩ pr50.2 q5 eσ76 q3 (by first | (rw [if_pos (by omega), if_pos (by omega)]) | (rw [if_pos (by omega), if_neg (by omega)]) | (rw [if_neg (by omega), zn_H_3 q4]; exact zn_m3.1.2.2 word (by omega) (by omega)))))⟩
        · show V 62 [some (ZR 134), some (ZI target), some (ZI word), none] [ZI r50, ZR 136] 284 σ
          refine zr_iconst (pc := 62) hV 0 dX2_become_62 rfl ?_
          refine zr_goto (pc := 63) hV 76 dX2_become_63 (by decide) ?_
          show V 76 [some (ZR 134), some (ZI target), some (ZI word), none] [ZI 0, ZI r50, ZR 136] 284 σ
          refine zr_iast (pc := 76) hV dX2_become_76 (zc_k136 zc_s136) (zc_pos zc_s136 rfl) rfl (by omega) (fun σ76 eσ76 => ?_)
          have hσ76 : zc_T σ76 := zc_ua136 eσ76 hσ zc_s136 (by omega)
          have hFσ76 := zc_Fa eσ76 zc_s136 rfl hFσ
          show V 77 [some (ZR 134), some (ZI target), some (ZI word), none] [] 284 σ76
          exact zr_vret (pc := 77) hV dX2_become_77 rfl rfl ⟨rfl, hσ76, hFσ76, trivial, (show zn_G σ σ76 ∧ zn_Bh σ76 ∧ ∀ s, zn_st s → zn_cp σ76 s → zn_row (zn_cv σ76 s) = zw_up (zn_row (zn_cv σ s)) (zw_ix (zn_F (s 9)) (zn_row (zn_cv σ s)) target) (zw_nv target word) from (zn_be_s ⟨by omega, by omega, q2⟩ pr50.2 q5 eσ76 q3 (by first | (rw [if_pos (by omega), if_pos (by omega)]) | (rw [if_pos (by omega), if_neg (by omega)]) | (rw [if_neg (by omega), zn_H_3 q4]; exact zn_m3.1.2.2 word (by omega) (by omega)))))⟩
  · show V 6 [some (ZR 134), some (ZI target), some (ZI word), none] [] 284 σ
    refine zr_aload_n (pc := 6) hV dX2_become_6 rfl rfl ?_
    refine zr_iload_n (pc := 7) hV dX2_become_7 rfl rfl ?_
    refine zr_bipush (pc := 8) hV 6 dX2_become_8 (by decide) ?_
    refine zr_isub (pc := 10) hV dX2_become_10 ?_
    refine zr_callSp (pc := 11) hV [ZI (target - 6)] (st := [ZR 134]) (c_X2_slotOf_2 (σ := σ) (target - 6) (by omega)) dX2_become_11 mX2_44 (by decide) (Nat.le_of_ble_eq_true rfl) (Nat.le_refl _) (fun r11 hr11 pr11 => ?_)
    refine zr_callVi (pc := 14) hV [ZI r11] (st := []) (c_X2_inSlot_2 (σ := σ) hσ r11 (by omega) q4 q5) dX2_become_14 mX2_47 (zc_k134 zc_s134) (zc_pos zc_s134 rfl) (by decide) (Nat.le_of_ble_eq_true rfl) (Nat.le_refl _) (fun r14 σ14 hr14 pσ14 => ?_)
    obtain ⟨hσ14, hfσ14, pσ14, wσ14⟩ := pσ14
    have hFσ14 := zc_Fc hfσ14 rfl hFσ
    refine zr_aload_n (pc := 17) hV dX2_become_17 rfl rfl ?_
    refine zr_getI (pc := 18) hV 0 dX2_become_18 fX2_24 rfl rfl (zc_k134 zc_s134) (zc_pos zc_s134 rfl) ?_
    have t7 := zc_g134_0 hσ14 zc_s134
    have t8 : σ14 134 0 = σ 134 0 := hfσ14 _ _ (zc_out_at zc_s134 rfl)
    refine zr_iand (pc := 21) hV dX2_become_21 ?_
    have t9 := zq_and_nnR (x := r14) (y := σ14 134 0) (by omega)
    refine zr_istore_n (pc := 22) hV [some (ZR 134), some (ZI target), some (ZI word), some (ZI (zq_and r14 (σ14 134 0)))] dX2_become_22 rfl (by decide) rfl rfl ?_
    refine zr_aload_n (pc := 23) hV dX2_become_23 rfl rfl ?_
    refine zr_getR (pc := 24) hV 2 136 dX2_become_24 fX2_15 rfl rfl (zc_k134 zc_s134) (zc_pos zc_s134 rfl) (zc_g134_2 hσ14 zc_s134) (by decide) ?_
    refine zr_iconst (pc := 27) hV 5 dX2_become_27 rfl ?_
    refine zr_iload_n (pc := 28) hV dX2_become_28 rfl rfl ?_
    refine zr_iadd (pc := 29) hV dX2_become_29 ?_
    refine zr_iload_n (pc := 30) hV dX2_become_30 rfl rfl ?_
    refine zr_aload_n (pc := 31) hV dX2_become_31 rfl rfl ?_
    refine zr_getI (pc := 32) hV 0 dX2_become_32 fX2_24 rfl rfl (zc_k134 zc_s134) (zc_pos zc_s134 rfl) ?_
    have t10 := zc_g134_0 hσ14 zc_s134
    have t11 : σ14 134 0 = σ 134 0 := hfσ14 _ _ (zc_out_at zc_s134 rfl)
    refine zr_iand (pc := 35) hV dX2_become_35 ?_
    have t12 := zq_and_nnR (x := word) (y := σ14 134 0) (by omega)
    have b14 := wσ14.2.1
    have vb14 := zn_v_b r11
    have m14 : σ14 134 0 = 3 := (hfσ14 134 0 (zc_out_at zc_s134 rfl)).trans H3
    have a14 : zq_and r14 (σ14 134 0) = r14 := by rw [m14]; exact zn_m3.1.2.2 r14 (by omega) (by omega)
    have wm : zq_and word (σ14 134 0) = word := by rw [m14]; exact zn_m3.1.2.2 word (by omega) (by omega)
    refine zr_iast (pc := 36) hV dX2_become_36 (zc_k136 zc_s136) (zc_pos zc_s136 rfl) rfl (by omega) (fun σ36 eσ36 => ?_)
    have hσ36 : zc_T σ36 := zc_ua136 eσ36 hσ14 zc_s136 (by omega)
    have hFσ36 := zc_Fa eσ36 zc_s136 rfl hFσ14
    refine zr_goto (pc := 37) hV 77 dX2_become_37 (by decide) ?_
    show V 77 [some (ZR 134), some (ZI target), some (ZI word), some (ZI (zq_and r14 (σ14 134 0)))] [] 284 σ36
    exact zr_vret (pc := 77) hV dX2_become_77 rfl rfl ⟨rfl, hσ36, hFσ36, trivial, (show zn_G σ σ36 ∧ zn_Bh σ36 ∧ ∀ s, zn_st s → zn_cp σ36 s → zn_row (zn_cv σ36 s) = zw_up (zn_row (zn_cv σ s)) (zw_ix (zn_F (s 9)) (zn_row (zn_cv σ s)) target) (zw_nv target word) from (by have w := wσ14; unfold zq_hid at w; rw [pr11.2] at w; exact zn_be_m (by omega) q5 w (fun i => hfσ14 136 i (zc_out_ar zc_s136 rfl)) (by rw [eσ36, a14, wm]) q3))⟩
set_option maxHeartbeats 800000 in
theorem c_X3_doOn_N2 {σ : zq_S} (hσ : zc_T σ) (this : Int) (kthis : zc_kd this = 4) (q0 : zq_hid (zw_oo σ this)) (q1 : zq_hid (zn_H σ)) (q2 : zq_hid (zn_Bh σ)) : zq_C zc_w yX3_doOn cX3_doOn 4 (none) 3 65 284 284 [ZR this, ZR 134] σ (zq_pv (fun τ => zc_T τ ∧ zc_Fr [(134, 5), (135, -1), (136, -1), (138, -1)] σ τ ∧ (True) ∧ zq_hid (zn_G σ τ ∧ zn_Bh τ ∧ ∀ s, zn_st s → zn_cp τ s → zn_row (zn_cv τ s) = zw_do (zn_F (s 9)) 3 (zw_ra σ this) 0 (σ this 4) (σ this 5) (σ this 6) (zn_row (zn_cv σ s))))) := by
  refine zq_C_of (by decide) (Nat.le_refl _) (Nat.le_of_ble_eq_true rfl) [some (ZR this), some (ZR 134), none, none] rfl (fun V hV => ?_)
  have pothis := zc_pos kthis rfl
  have hFσ := zc_Fr_rf [(134, 5), (135, -1), (136, -1), (138, -1)] σ
  have z6t := zc_g4_6 hσ kthis
  show V 0 [some (ZR this), some (ZR 134), none, none] [] 284 σ
  refine zr_aload_n (pc := 0) hV dX3_doOn_0 rfl rfl ?_
  refine zr_getI (pc := 1) hV 4 dX3_doOn_1 fX3_43 rfl rfl (zc_k4 kthis) (zc_pos kthis rfl) ?_
  have t1 := zc_g4_4 hσ kthis
  have J40 : ∀ (σ_40 : zq_S), (zc_T σ_40) → (zc_Fr [(134, 5), (135, -1), (136, -1), (138, -1)] σ σ_40) → (zq_hid (zn_G σ σ_40)) → (zq_hid (∀ i, σ_40 136 i = σ 136 i)) → (zq_hid (∀ s, zn_st s → zn_cp σ_40 s → zw_gd (zn_F (s 9)) (zn_row (zn_cv σ s)) (σ this 4) (σ this 5))) → V 40 [some (ZR this), some (ZR 134), none, none] [] 284 σ_40 := by
    intro σ_40 hσ_40 hFσ_40 hi40_0 hi40_1 hi40_2
    show V 40 [some (ZR this), some (ZR 134), none, none] [] 284 σ_40
    refine zr_iconst (pc := 40) hV 0 dX3_doOn_40 rfl ?_
    refine zr_istore_n (pc := 41) hV [some (ZR this), some (ZR 134), some (ZI 0), none] dX3_doOn_41 rfl (by decide) rfl rfl ?_
    have L42 : ∀ (fuel : Nat) (x2_42 : Int) (σ_42 : zq_S), (0 ≤ x2_42 ∧ x2_42 ≤ 3) → (zc_T σ_42) → (zc_Fr [(134, 5), (135, -1), (136, -1), (138, -1)] σ σ_42) → (zq_hid (zn_G σ σ_42)) → (zq_hid (zn_Bh σ_42)) → (zq_hid (∀ s, zn_st s → zn_cp σ_42 s → zn_row (zn_cv σ_42 s) = zw_as (zn_F (s 9)) 3 (zw_ra σ this) (18 * 0) x2_42 (zn_row (zn_cv σ s)))) → (zq_hid (∀ s, zn_st s → zn_cp σ_42 s → zw_gd (zn_F (s 9)) (zn_row (zn_cv σ s)) (σ this 4) (σ this 5))) → (x2_42 ≤ σ this 6) → 3 - x2_42 < (fuel : Int) → V 42 [some (ZR this), some (ZR 134), some (ZI x2_42), none] [] 284 σ_42 := by
      intro fuel
      induction fuel with
      | zero =>
        intro x2_42 σ_42 hx2_42 hσ_42 hFσ_42 hi42_0 hi42_1 hi42_2 hi42_3 hi42_4 hm42
        exfalso; omega
      | succ fuel ih =>
        intro x2_42 σ_42 hx2_42 hσ_42 hFσ_42 hi42_0 hi42_1 hi42_2 hi42_3 hi42_4 hm42
        have ih42 := ih
        show V 42 [some (ZR this), some (ZR 134), some (ZI x2_42), none] [] 284 σ_42
        refine zr_iload_n (pc := 42) hV dX3_doOn_42 rfl rfl ?_
        refine zr_aload_n (pc := 43) hV dX3_doOn_43 rfl rfl ?_
        refine zr_getI (pc := 44) hV 6 dX3_doOn_44 fX3_49 rfl rfl (zc_k4 kthis) (zc_pos kthis rfl) ?_
        have t2 := zc_g4_6 hσ_42 kthis
        have t3 : σ_42 this 6 = σ this 6 := hFσ_42 _ _ (zc_out_at kthis rfl)
        refine zr_icmp_ge (pc := 47) hV 112 dX3_doOn_47 (by decide) (by omega) (by omega) (fun c4 => ?_) (fun c4 => ?_)
        · show V 112 [some (ZR this), some (ZR 134), some (ZI x2_42), none] [] 284 σ_42
          exact zr_vret (pc := 112) hV dX3_doOn_112 rfl rfl ⟨rfl, hσ_42, hFσ_42, trivial, (show zn_G σ σ_42 ∧ zn_Bh σ_42 ∧ ∀ s, zn_st s → zn_cp σ_42 s → zn_row (zn_cv σ_42 s) = zw_do (zn_F (s 9)) 3 (zw_ra σ this) 0 (σ this 4) (σ this 5) (σ this 6) (zn_row (zn_cv σ s)) from ⟨hi42_0, hi42_1, fun s hs hc => by rw [zw_do_y (hi42_3 s hs hc), show σ this 6 = x2_42 by omega]; exact hi42_2 s hs hc⟩)⟩
        · show V 50 [some (ZR this), some (ZR 134), some (ZI x2_42), none] [] 284 σ_42
          have H42 := zn_H_G q1 hi42_0
          have eo2 : σ_42 (this + 2) x2_42 = σ (this + 2) x2_42 := hFσ_42 _ _ (zc_out_ar (zc_p4_2 kthis) rfl)
          have eo3 : σ_42 (this + 3) x2_42 = σ (this + 3) x2_42 := hFσ_42 _ _ (zc_out_ar (zc_p4_3 kthis) rfl)
          have eo4 : σ_42 (this + 4) x2_42 = σ (this + 4) x2_42 := hFσ_42 _ _ (zc_out_ar (zc_p4_4 kthis) rfl)
          have eo5 : σ_42 (this + 5) x2_42 = σ (this + 5) x2_42 := hFσ_42 _ _ (zc_out_ar (zc_p4_5 kthis) rfl)
          have oo := q0.2 x2_42 (by omega) (by omega)
          refine zr_aload_n (pc := 50) hV dX3_doOn_50 rfl rfl ?_
          refine zr_aload_n (pc := 51) hV dX3_doOn_51 rfl rfl ?_
          refine zr_getR (pc := 52) hV 8 (this + 3) dX3_doOn_52 fX3_18 rfl rfl (zc_k4 kthis) (zc_pos kthis rfl) (zc_g4_8 hσ_42 kthis) (zc_pos (zc_p4_3 kthis) rfl).1 ?_
          refine zr_iload_n (pc := 55) hV dX3_doOn_55 rfl rfl ?_
          refine zr_iald (pc := 56) hV dX3_doOn_56 (zc_k7 (zc_p4_3 kthis)) (zc_pos (zc_p4_3 kthis) rfl) rfl (by omega) ?_
          have t5 := zc_ga7 hσ_42 (zc_p4_3 kthis) x2_42
          have t6 : σ_42 (this + 3) x2_42 = σ (this + 3) x2_42 := hFσ_42 _ _ (zc_out_ar (zc_p4_3 kthis) rfl)
          refine zr_callUi (pc := 57) hV [ZI (σ_42 (this + 3) x2_42)] (st := []) (c_X2_wordOf_2 (σ := σ_42) hσ_42 (σ_42 (this + 3) x2_42) (by omega) (zc_ga7 hσ_42 (zc_p4_3 kthis) _).2.2 H42 hi42_1) dX3_doOn_57 mX3_102_2 (zc_k134 zc_s134) (zc_pos zc_s134 rfl) (by decide) (Nat.le_of_ble_eq_true rfl) (Nat.le_refl _) (fun r57 σ57 hr57 pσ57 => ?_)
          obtain ⟨hσ57, hfσ57, pσ57, wσ57⟩ := pσ57
          have hFσ57 := zc_Fc hfσ57 rfl hFσ_42
          refine zr_istore_n (pc := 60) hV [some (ZR this), some (ZR 134), some (ZI x2_42), some (ZI r57)] dX3_doOn_60 rfl (by decide) rfl rfl ?_
          have b57 := wσ57.2.1
          have vv57 : ∀ s, zn_st s → zn_cp σ57 s → r57 = zw_va (zn_F (s 9)) (zn_row (zn_cv σ_42 s)) 3 ((zw_ra σ this) ((18 * 0 + 6 * x2_42) + 1)) ((zw_ra σ this) ((18 * 0 + 6 * x2_42) + 2)) := fun s hs hc => by have z := wσ57.2.2 s hs hc; rw [eo3] at z; rw [zw_ra_1 (j := x2_42) (by omega), zw_ra_2 (j := x2_42) (by omega)]; exact z
          have H57 := zn_H_G H42 wσ57.1
          have B57 := zn_Bh_c (fun i => hfσ57 136 i (zc_out_ar zc_s136 rfl)) hi42_1
          refine zr_aload_n (pc := 61) hV dX3_doOn_61 rfl rfl ?_
          refine zr_getR (pc := 62) hV 9 (this + 4) dX3_doOn_62 fX3_21 rfl rfl (zc_k4 kthis) (zc_pos kthis rfl) (zc_g4_9 hσ57 kthis) (zc_pos (zc_p4_4 kthis) rfl).1 ?_
          refine zr_iload_n (pc := 65) hV dX3_doOn_65 rfl rfl ?_
          refine zr_iald (pc := 66) hV dX3_doOn_66 (zc_k8 (zc_p4_4 kthis)) (zc_pos (zc_p4_4 kthis) rfl) rfl (by omega) ?_
          have t7 := zc_ga8 hσ57 (zc_p4_4 kthis) x2_42
          have t8 : σ57 (this + 4) x2_42 = σ_42 (this + 4) x2_42 := hfσ57 _ _ (zc_out_ar (zc_p4_4 kthis) rfl)
          have t9 : σ_42 (this + 4) x2_42 = σ (this + 4) x2_42 := hFσ_42 _ _ (zc_out_ar (zc_p4_4 kthis) rfl)
          have J95 : ∀ (x3_95 : Int) (σ_95 : zq_S), (0 ≤ x3_95 ∧ x3_95 ≤ 255) → (zc_T σ_95) → (zc_Fr [(134, 5), (135, -1), (136, -1), (138, -1)] σ σ_95) → (zq_hid (zn_G σ_42 σ_95)) → (zq_hid (∀ i, σ_95 136 i = σ_42 136 i)) → (zq_hid (∀ s, zn_st s → zn_cp σ_95 s → x3_95 = zw_vl (zn_F (s 9)) (zn_row (zn_cv σ_42 s)) 3 (zw_ra σ this) (18 * 0 + 6 * x2_42))) → (0 ≤ x3_95 ∧ x3_95 ≤ 3) → V 95 [some (ZR this), some (ZR 134), some (ZI x2_42), some (ZI x3_95)] [] 284 σ_95 := by
            intro x3_95 σ_95 hx3_95 hσ_95 hFσ_95 hi95_0 hi95_1 hi95_2 hi95_3
            show V 95 [some (ZR this), some (ZR 134), some (ZI x2_42), some (ZI x3_95)] [] 284 σ_95
            refine zr_aload_n (pc := 95) hV dX3_doOn_95 rfl rfl ?_
            refine zr_aload_n (pc := 96) hV dX3_doOn_96 rfl rfl ?_
            refine zr_getR (pc := 97) hV 7 (this + 2) dX3_doOn_97 fX3_15 rfl rfl (zc_k4 kthis) (zc_pos kthis rfl) (zc_g4_7 hσ_95 kthis) (zc_pos (zc_p4_2 kthis) rfl).1 ?_
            refine zr_iload_n (pc := 100) hV dX3_doOn_100 rfl rfl ?_
            refine zr_iald (pc := 101) hV dX3_doOn_101 (zc_k6 (zc_p4_2 kthis)) (zc_pos (zc_p4_2 kthis) rfl) rfl (by omega) ?_
            have t10 := zc_ga6 hσ_95 (zc_p4_2 kthis) x2_42
            have t11 : σ_95 (this + 2) x2_42 = σ (this + 2) x2_42 := hFσ_95 _ _ (zc_out_ar (zc_p4_2 kthis) rfl)
            refine zr_iload_n (pc := 102) hV dX3_doOn_102 rfl rfl ?_
            have e295 : σ_95 (this + 2) x2_42 = σ (this + 2) x2_42 := hFσ_95 _ _ (zc_out_ar (zc_p4_2 kthis) rfl)
            refine zr_callUv (pc := 103) hV [ZI (σ_95 (this + 2) x2_42), ZI x3_95] (st := []) (c_X2_become_2 (σ := σ_95) hσ_95 (σ_95 (this + 2) x2_42) x3_95 (by omega) (by omega) (by rw [e295]; exact oo.1) hi95_3 (zn_H_G H42 hi95_0) (zn_Bh_c hi95_1 hi42_1)) dX3_doOn_103 mX3_114_2 (zc_k134 zc_s134) (zc_pos zc_s134 rfl) (by decide) (Nat.le_of_ble_eq_true rfl) (Nat.le_refl _) (fun σ103 pσ103 => ?_)
            obtain ⟨hσ103, hfσ103, pσ103, wσ103⟩ := pσ103
            have hFσ103 := zc_Fc hfσ103 rfl hFσ_95
            refine zr_iinc (pc := 106) hV [some (ZR this), some (ZR 134), some (ZI (x2_42 + 1)), some (ZI x3_95)] (x2_42 + 1) dX3_doOn_106 rfl rfl (by decide) rfl rfl ?_
            refine zr_goto (pc := 109) hV 42 dX3_doOn_109 (by decide) ?_
            refine zr_sub (pc := 42) hV [some (ZR this), some (ZR 134), some (ZI (x2_42 + 1)), none] (⟨rfl, rfl, rfl, trivial⟩) ?_
            exact ih42 (x2_42 + 1) σ103 (by omega) hσ103 hFσ103 (zn_G_t q1 hi42_0 (zn_G_t H42 hi95_0 wσ103.1)) wσ103.2.1 (fun s hs hc => by have w := wσ103.2.2 s hs hc; rw [zn_cv_c hi95_1, e295] at w; have c95 := zn_cp_X wσ103.1.2 hc; have c42 := zn_cp_X hi95_0.2 c95; rw [zw_as_s (by omega), ← hi42_2 s hs c42]; unfold zw_ac; rw [zw_ra_0 (j := x2_42) (by omega), ← hi95_2 s hs c95]; exact w) (fun s hs hc => hi42_3 s hs (zn_cp_X (zn_G_t H42 hi95_0 wσ103.1).2 hc)) (by omega) (by omega)
          refine zr_if_eq (pc := 67) hV 95 dX3_doOn_67 (by decide) (by omega) (fun c12 => ?_) (fun c12 => ?_)
          · exact J95 r57 σ57 (by omega) hσ57 hFσ57 wσ57.1 (fun i => hfσ57 136 i (zc_out_ar zc_s136 rfl)) (fun s hs hc => zw_vl_0 (zn_ok_cv hi42_1 hs) (by rw [zw_ra_3 (j := x2_42) (by omega), show σ (this + 4) x2_42 = 0 by omega]; exact zt_sn_0) (vv57 s hs hc) (by omega)) (by omega)
          · show V 70 [some (ZR this), some (ZR 134), some (ZI x2_42), some (ZI r57)] [] 284 σ57
            refine zr_aload_n (pc := 70) hV dX3_doOn_70 rfl rfl ?_
            refine zr_getR (pc := 71) hV 9 (this + 4) dX3_doOn_71 fX3_21 rfl rfl (zc_k4 kthis) (zc_pos kthis rfl) (zc_g4_9 hσ57 kthis) (zc_pos (zc_p4_4 kthis) rfl).1 ?_
            refine zr_iload_n (pc := 74) hV dX3_doOn_74 rfl rfl ?_
            refine zr_iald (pc := 75) hV dX3_doOn_75 (zc_k8 (zc_p4_4 kthis)) (zc_pos (zc_p4_4 kthis) rfl) rfl (by omega) ?_
            have t13 := zc_ga8 hσ57 (zc_p4_4 kthis) x2_42
            have t14 : σ57 (this + 4) x2_42 = σ_42 (this + 4) x2_42 := hfσ57 _ _ (zc_out_ar (zc_p4_4 kthis) rfl)
            have t15 : σ_42 (this + 4) x2_42 = σ (this + 4) x2_42 := hFσ_42 _ _ (zc_out_ar (zc_p4_4 kthis) rfl)
            refine zr_iload_n (pc := 76) hV dX3_doOn_76 rfl rfl ?_
            refine zr_aload_n (pc := 77) hV dX3_doOn_77 rfl rfl ?_
            refine zr_aload_n (pc := 78) hV dX3_doOn_78 rfl rfl ?_
            refine zr_getR (pc := 79) hV 10 (this + 5) dX3_doOn_79 fX3_24 rfl rfl (zc_k4 kthis) (zc_pos kthis rfl) (zc_g4_10 hσ57 kthis) (zc_pos (zc_p4_5 kthis) rfl).1 ?_
            refine zr_iload_n (pc := 82) hV dX3_doOn_82 rfl rfl ?_
            refine zr_iald (pc := 83) hV dX3_doOn_83 (zc_k9 (zc_p4_5 kthis)) (zc_pos (zc_p4_5 kthis) rfl) rfl (by omega) ?_
            have t16 := zc_ga9 hσ57 (zc_p4_5 kthis) x2_42
            have t17 : σ57 (this + 5) x2_42 = σ_42 (this + 5) x2_42 := hfσ57 _ _ (zc_out_ar (zc_p4_5 kthis) rfl)
            have t18 : σ_42 (this + 5) x2_42 = σ (this + 5) x2_42 := hFσ_42 _ _ (zc_out_ar (zc_p4_5 kthis) rfl)
            refine zr_callUi (pc := 84) hV [ZI (σ57 (this + 5) x2_42)] (st := [ZI r57, ZI (σ57 (this + 4) x2_42)]) (c_X2_wordOf_2 (σ := σ57) hσ57 (σ57 (this + 5) x2_42) (by omega) (zc_ga9 hσ57 (zc_p4_5 kthis) _).2.2 H57 B57) dX3_doOn_84 mX3_102_2 (zc_k134 zc_s134) (zc_pos zc_s134 rfl) (by decide) (Nat.le_of_ble_eq_true rfl) (Nat.le_refl _) (fun r84 σ84 hr84 pσ84 => ?_)
            obtain ⟨hσ84, hfσ84, pσ84, wσ84⟩ := pσ84
            have hFσ84 := zc_Fc hfσ84 rfl hFσ57
            refine zr_aload_n (pc := 87) hV dX3_doOn_87 rfl rfl ?_
            refine zr_getI (pc := 88) hV 0 dX3_doOn_88 fX3_107_2 rfl rfl (zc_k134 zc_s134) (zc_pos zc_s134 rfl) ?_
            have t19 := zc_g134_0 hσ84 zc_s134
            have t20 : σ84 134 0 = σ57 134 0 := hfσ84 _ _ (zc_out_at zc_s134 rfl)
            have t21 : σ57 134 0 = σ_42 134 0 := hfσ57 _ _ (zc_out_at zc_s134 rfl)
            have t22 : σ_42 134 0 = σ 134 0 := hFσ_42 _ _ (zc_out_at zc_s134 rfl)
            have b84 := wσ84.2.1
            have g84 := zn_G_t H42 wσ57.1 wσ84.1
            have m84 : σ84 134 0 = 3 := zn_H_3 (zn_H_G H42 g84)
            have s57 : σ57 (this + 4) x2_42 = σ (this + 4) x2_42 := hFσ57 _ _ (zc_out_ar (zc_p4_4 kthis) rfl)
            have t57 : σ57 (this + 5) x2_42 = σ (this + 5) x2_42 := hFσ57 _ _ (zc_out_ar (zc_p4_5 kthis) rfl)
            have vv84 : ∀ s, zn_st s → zn_cp σ84 s → r84 = zw_va (zn_F (s 9)) (zn_row (zn_cv σ_42 s)) 3 ((zw_ra σ this) ((18 * 0 + 6 * x2_42) + 4)) ((zw_ra σ this) ((18 * 0 + 6 * x2_42) + 5)) := fun s hs hc => by have z := wσ84.2.2 s hs hc; rw [t57, zn_cv_c (fun i => hfσ57 136 i (zc_out_ar zc_s136 rfl))] at z; rw [zw_ra_4 (j := x2_42) (by omega), zw_ra_5 (j := x2_42) (by omega)]; exact z
            have t23 := zc_g134_0 hσ84 zc_s134
            have t24 : σ84 134 0 = σ57 134 0 := hfσ84 _ _ (zc_out_at zc_s134 rfl)
            have t25 : σ57 134 0 = σ_42 134 0 := hfσ57 _ _ (zc_out_at zc_s134 rfl)
            have t26 : σ_42 134 0 = σ 134 0 := hFσ_42 _ _ (zc_out_at zc_s134 rfl)
            refine zr_callSp (pc := 91) hV [ZI (σ57 (this + 4) x2_42), ZI r57, ZI r84, ZI (σ84 134 0)] (st := []) (c_X3_combine_2 (σ := σ84) (σ57 (this + 4) x2_42) r57 r84 (σ84 134 0) (by omega) (by omega) (by omega) (by omega)) dX3_doOn_91 mX3_110 (by decide) (Nat.le_of_ble_eq_true rfl) (Nat.le_refl _) (fun r91 hr91 pr91 => ?_)
            have t27 := zc_g134_0 hσ84 zc_s134
            have t28 : σ84 134 0 = σ57 134 0 := hfσ84 _ _ (zc_out_at zc_s134 rfl)
            have t29 : σ57 134 0 = σ_42 134 0 := hfσ57 _ _ (zc_out_at zc_s134 rfl)
            have t30 : σ_42 134 0 = σ 134 0 := hFσ_42 _ _ (zc_out_at zc_s134 rfl)
            refine zr_istore_n (pc := 94) hV [some (ZR this), some (ZR 134), some (ZI x2_42), some (ZI r91)] dX3_doOn_94 rfl (by decide) rfl rfl ?_
            exact J95 r91 σ84 (by omega) hσ84 hFσ84 g84 (fun i => (hfσ84 136 i (zc_out_ar zc_s136 rfl)).trans (hfσ57 136 i (zc_out_ar zc_s136 rfl))) (fun s hs hc => zw_vl_1 (c := σ (this + 4) x2_42) (x := r57) (y := r84) (zn_ok_cv hi42_1 hs) (zw_ra_3 (j := x2_42) (by omega)) (by rcases oo.2 with z | z; (exfalso; omega); exact z) (vv57 s hs (zn_cp_X wσ84.1.2 hc)) (vv84 s hs hc) (by omega) (by omega) (by have z := pr91.2; rw [s57, m84] at z; exact z)) (by obtain ⟨s, hs, hc⟩ := zn_H_some (zn_H_G H42 g84); have e : r91 = _ := zw_vl_1 (c := σ (this + 4) x2_42) (x := r57) (y := r84) (zn_ok_cv hi42_1 hs) (zw_ra_3 (j := x2_42) (by omega)) (by rcases oo.2 with z | z; (exfalso; omega); exact z) (vv57 s hs (zn_cp_X wσ84.1.2 hc)) (vv84 s hs hc) (by omega) (by omega) (by have z := pr91.2; rw [s57, m84] at z; exact z); rw [e]; exact zw_vl_b (zn_ok_cv hi42_1 hs))
    exact L42 (3 - (0 : Int) + 1 : Int).toNat 0 σ_40 (by omega) hσ_40 hFσ_40 hi40_0 (zn_Bh_c hi40_1 q2) (fun s _ _ => by rw [zn_cv_c hi40_1]; exact (zw_as_0 _ _ _ _ _).symm) hi40_2 (by omega) (by omega)
  refine zr_if_eq (pc := 4) hV 40 dX3_doOn_4 (by decide) (by omega) (fun c31 => ?_) (fun c31 => ?_)
  · exact J40 σ hσ hFσ (zn_G_r σ) (fun _ => rfl) (fun s _ _ => Or.inl (by omega))
  · show V 7 [some (ZR this), some (ZR 134), none, none] [] 284 σ
    refine zr_aload_n (pc := 7) hV dX3_doOn_7 rfl rfl ?_
    refine zr_aload_n (pc := 8) hV dX3_doOn_8 rfl rfl ?_
    refine zr_getI (pc := 9) hV 5 dX3_doOn_9 fX3_46 rfl rfl (zc_k4 kthis) (zc_pos kthis rfl) ?_
    have t32 := zc_g4_5 hσ kthis
    have t33 := zc_g4_5 hσ kthis
    have t34 := zc_g4_5 hσ kthis
    refine zr_callUi (pc := 12) hV [ZI (σ this 5)] (st := []) (c_X2_wordOf_2 (σ := σ) hσ (σ this 5) (by omega) (Or.inl (by omega)) q1 q2) dX3_doOn_12 mX3_102_2 (zc_k134 zc_s134) (zc_pos zc_s134 rfl) (by decide) (Nat.le_of_ble_eq_true rfl) (Nat.le_refl _) (fun r12 σ12 hr12 pσ12 => ?_)
    obtain ⟨hσ12, hfσ12, pσ12, wσ12⟩ := pσ12
    have hFσ12 := zc_Fc hfσ12 rfl hFσ
    have t35 := zc_g4_5 hσ kthis
    have w12 := wσ12.2.1
    have eg : ∀ s, zn_st s → zn_cp σ12 s → r12 = (if σ this 5 = 4 then zn_row (zn_cv σ s) 264 else zn_row (zn_cv σ s) (zn_F (s 9) (σ this 5))) := fun s hs hc => (wσ12.2.2 s hs hc).trans (zw_gw (by omega) (q0.1 (by omega)))
    refine zr_if_eq (pc := 15) hV 22 dX3_doOn_15 (by decide) (by omega) (fun c36 => ?_) (fun c36 => ?_)
    · show V 22 [some (ZR this), some (ZR 134), none, none] [] 284 σ12
      refine zr_iconst (pc := 22) hV 0 dX3_doOn_22 rfl ?_
      show V 23 [some (ZR this), some (ZR 134), none, none] [ZI 0] 284 σ12
      refine zr_aload_n (pc := 23) hV dX3_doOn_23 rfl rfl ?_
      refine zr_getI (pc := 24) hV 4 dX3_doOn_24 fX3_43 rfl rfl (zc_k4 kthis) (zc_pos kthis rfl) ?_
      have t37 := zc_g4_4 hσ12 kthis
      have t38 : σ12 this 4 = σ this 4 := hfσ12 _ _ (zc_out_at kthis rfl)
      refine zr_iconst (pc := 27) hV 1 dX3_doOn_27 rfl ?_
      refine zr_icmp_ne (pc := 28) hV 35 dX3_doOn_28 (by decide) (by omega) ⟨by decide, by decide⟩ (fun c39 => ?_) (fun c39 => ?_)
      · show V 35 [some (ZR this), some (ZR 134), none, none] [ZI 0] 284 σ12
        refine zr_iconst (pc := 35) hV 0 dX3_doOn_35 rfl ?_
        show V 36 [some (ZR this), some (ZR 134), none, none] [ZI 0, ZI 0] 284 σ12
        refine zr_icmp_eq (pc := 36) hV 40 dX3_doOn_36 (by decide) ⟨by decide, by decide⟩ ⟨by decide, by decide⟩ (fun c40 => ?_) (fun c40 => ?_)
        · exact J40 σ12 hσ12 hFσ12 wσ12.1 (fun i => hfσ12 136 i (zc_out_ar zc_s136 rfl)) (fun s hs hc => Or.inr (by rw [← eg s hs hc]; omega))
        · exfalso; omega
      · show V 31 [some (ZR this), some (ZR 134), none, none] [ZI 0] 284 σ12
        refine zr_iconst (pc := 31) hV 1 dX3_doOn_31 rfl ?_
        refine zr_goto (pc := 32) hV 36 dX3_doOn_32 (by decide) ?_
        show V 36 [some (ZR this), some (ZR 134), none, none] [ZI 1, ZI 0] 284 σ12
        refine zr_icmp_eq (pc := 36) hV 40 dX3_doOn_36 (by decide) ⟨by decide, by decide⟩ ⟨by decide, by decide⟩ (fun c41 => ?_) (fun c41 => ?_)
        · exfalso; omega
        · show V 39 [some (ZR this), some (ZR 134), none, none] [] 284 σ12
          exact zr_vret (pc := 39) hV dX3_doOn_39 rfl rfl ⟨rfl, hσ12, hFσ12, trivial, (show zn_G σ σ12 ∧ zn_Bh σ12 ∧ ∀ s, zn_st s → zn_cp σ12 s → zn_row (zn_cv σ12 s) = zw_do (zn_F (s 9)) 3 (zw_ra σ this) 0 (σ this 4) (σ this 5) (σ this 6) (zn_row (zn_cv σ s)) from ⟨wσ12.1, zn_Bh_c (fun i => hfσ12 136 i (zc_out_ar zc_s136 rfl)) q2, fun s hs hc => by rw [zn_cv_c (fun i => hfσ12 136 i (zc_out_ar zc_s136 rfl))]; exact (zw_do_n (fun q => by have e := eg s hs hc; rcases q with q | q; omega; (rw [← e] at q; omega))).symm⟩)⟩
    · show V 18 [some (ZR this), some (ZR 134), none, none] [] 284 σ12
      refine zr_iconst (pc := 18) hV 1 dX3_doOn_18 rfl ?_
      refine zr_goto (pc := 19) hV 23 dX3_doOn_19 (by decide) ?_
      show V 23 [some (ZR this), some (ZR 134), none, none] [ZI 1] 284 σ12
      refine zr_aload_n (pc := 23) hV dX3_doOn_23 rfl rfl ?_
      refine zr_getI (pc := 24) hV 4 dX3_doOn_24 fX3_43 rfl rfl (zc_k4 kthis) (zc_pos kthis rfl) ?_
      have t42 := zc_g4_4 hσ12 kthis
      have t43 : σ12 this 4 = σ this 4 := hfσ12 _ _ (zc_out_at kthis rfl)
      refine zr_iconst (pc := 27) hV 1 dX3_doOn_27 rfl ?_
      refine zr_icmp_ne (pc := 28) hV 35 dX3_doOn_28 (by decide) (by omega) ⟨by decide, by decide⟩ (fun c44 => ?_) (fun c44 => ?_)
      · show V 35 [some (ZR this), some (ZR 134), none, none] [ZI 1] 284 σ12
        refine zr_iconst (pc := 35) hV 0 dX3_doOn_35 rfl ?_
        show V 36 [some (ZR this), some (ZR 134), none, none] [ZI 0, ZI 1] 284 σ12
        refine zr_icmp_eq (pc := 36) hV 40 dX3_doOn_36 (by decide) ⟨by decide, by decide⟩ ⟨by decide, by decide⟩ (fun c45 => ?_) (fun c45 => ?_)
        · exfalso; omega
        · show V 39 [some (ZR this), some (ZR 134), none, none] [] 284 σ12
          exact zr_vret (pc := 39) hV dX3_doOn_39 rfl rfl ⟨rfl, hσ12, hFσ12, trivial, (show zn_G σ σ12 ∧ zn_Bh σ12 ∧ ∀ s, zn_st s → zn_cp σ12 s → zn_row (zn_cv σ12 s) = zw_do (zn_F (s 9)) 3 (zw_ra σ this) 0 (σ this 4) (σ this 5) (σ this 6) (zn_row (zn_cv σ s)) from ⟨wσ12.1, zn_Bh_c (fun i => hfσ12 136 i (zc_out_ar zc_s136 rfl)) q2, fun s hs hc => by rw [zn_cv_c (fun i => hfσ12 136 i (zc_out_ar zc_s136 rfl))]; exact (zw_do_n (fun q => by have e := eg s hs hc; rcases q with q | q; omega; (rw [← e] at q; omega))).symm⟩)⟩
      · show V 31 [some (ZR this), some (ZR 134), none, none] [ZI 1] 284 σ12
        refine zr_iconst (pc := 31) hV 1 dX3_doOn_31 rfl ?_
        refine zr_goto (pc := 32) hV 36 dX3_doOn_32 (by decide) ?_
        show V 36 [some (ZR this), some (ZR 134), none, none] [ZI 1, ZI 1] 284 σ12
        refine zr_icmp_eq (pc := 36) hV 40 dX3_doOn_36 (by decide) ⟨by decide, by decide⟩ ⟨by decide, by decide⟩ (fun c46 => ?_) (fun c46 => ?_)
        · exact J40 σ12 hσ12 hFσ12 wσ12.1 (fun i => hfσ12 136 i (zc_out_ar zc_s136 rfl)) (fun s hs hc => Or.inr (by rw [← eg s hs hc]; omega))
        · exfalso; omega
set_option maxHeartbeats 800000 in
theorem c_X2_doAfresh_2 {σ : zq_S} (hσ : zc_T σ) (order : Int) (korder : zc_kd order = 4) (q0 : zq_hid (zw_oo σ order)) (q1 : zq_hid (zn_H σ)) : zq_C zc_w yX2_doAfresh cX2_doAfresh 2 (none) 4 88 284 284 [ZR 134, ZR order] σ (zq_pv (fun τ => zc_T τ ∧ zc_Fr [(134, 5), (135, -1), (136, -1), (138, -1)] σ τ ∧ (True) ∧ zq_hid (zn_G σ τ ∧ zn_Bh τ ∧ ∀ s, zn_st s → zn_cp τ s → ∀ x, 0 ≤ x → x ≤ 8 → zn_cv τ s x = zn_o (zw_ra σ order) 0 (σ order 4) (σ order 5) (σ order 6) s x))) := by
  refine zq_C_of (by decide) (Nat.le_refl _) (Nat.le_of_ble_eq_true rfl) [some (ZR 134), some (ZR order)] rfl (fun V hV => ?_)
  have poorder := zc_pos korder rfl
  have hFσ := zc_Fr_rf [(134, 5), (135, -1), (136, -1), (138, -1)] σ
  show V 0 [some (ZR 134), some (ZR order)] [] 284 σ
  refine zr_aload_n (pc := 0) hV dX2_doAfresh_0 rfl rfl ?_
  refine zr_getR (pc := 1) hV 2 136 dX2_doAfresh_1 fX2_15 rfl rfl (zc_k134 zc_s134) (zc_pos zc_s134 rfl) (zc_g134_2 hσ zc_s134) (by decide) ?_
  refine zr_iconst (pc := 4) hV (-1) dX2_doAfresh_4 rfl ?_
  refine zr_callSv (pc := 5) hV [ZR 136, ZI (-1)] (st := []) (c_fill (σ := σ) hσ 136 (-1) zc_s136 rfl rfl ⟨by decide, by decide⟩ (fun _ => ⟨by omega, by omega⟩)) dX2_doAfresh_5 mX2_28 (by decide) (Nat.le_of_ble_eq_true rfl) (Nat.le_refl _) (fun σ5 pσ5 => ?_)
  obtain ⟨hσ5, hfσ5, pσ5⟩ := pσ5
  have hFσ5 := zc_Fc hfσ5 rfl hFσ
  have af := zn_af0 pσ5.1 pσ5.2 q1
  have oo5 := zn_oo_c pσ5.2 korder q0
  refine zr_aload_n (pc := 8) hV dX2_doAfresh_8 rfl rfl ?_
  refine zr_aload_n (pc := 9) hV dX2_doAfresh_9 rfl rfl ?_
  refine zr_callVv (pc := 10) hV [ZR 134] (st := []) (c_X3_doOn_N2 (σ := σ5) hσ5 order korder oo5 (zn_H_G q1 af.1) af.2) dX2_doAfresh_10 mX2_50 (zc_k4 korder) (zc_pos korder rfl) (by decide) (Nat.le_of_ble_eq_true rfl) (Nat.le_refl _) (fun σ10 pσ10 => ?_)
  obtain ⟨hσ10, hfσ10, pσ10, wσ10⟩ := pσ10
  have hFσ10 := zc_Fc hfσ10 rfl hFσ5
  have t1 := zc_g4_4 hσ5 korder
  have t2 : σ5 order 4 = σ order 4 := hfσ5 _ _ (zc_out_at korder rfl)
  have t3 := zc_g4_5 hσ5 korder
  have t4 : σ5 order 5 = σ order 5 := hfσ5 _ _ (zc_out_at korder rfl)
  have t5 := zc_g4_6 hσ5 korder
  have t6 : σ5 order 6 = σ order 6 := hfσ5 _ _ (zc_out_at korder rfl)
  exact zr_vret (pc := 13) hV dX2_doAfresh_13 rfl rfl ⟨rfl, hσ10, hFσ10, trivial, (show zn_G σ σ10 ∧ zn_Bh σ10 ∧ ∀ s, zn_st s → zn_cp σ10 s → ∀ x, 0 ≤ x → x ≤ 8 → zn_cv σ10 s x = zn_o (zw_ra σ order) 0 (σ order 4) (σ order 5) (σ order 6) s x from (zn_af hσ korder pσ5.1 pσ5.2 q0 q1 wσ10))⟩
