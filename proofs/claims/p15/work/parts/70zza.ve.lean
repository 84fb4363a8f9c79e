set_option maxHeartbeats 800000 in
theorem c_X2_bitOf_2 {σ : zq_S} (slot : Int) (q0 : 0 ≤ slot ∧ slot ≤ 8) : zq_C zc_w yX2_bitOf cX2_bitOf 1 (some .int) 0 0 284 284 [ZI slot] σ (zq_pp σ (fun r => (1 ≤ r ∧ r ≤ 256) ∧ r = zn_bit slot)) := by
  refine zq_C_of (by decide) (Nat.le_refl _) (Nat.le_of_ble_eq_true rfl) [some (ZI slot)] rfl (fun V hV => ?_)
  have zs := zx_shl_one (y := slot) 8 256 (by decide) (by decide) (by omega)
  have zp := zx_p2_pos slot
  show V 0 [some (ZI slot)] [] 284 σ
  refine zr_iload_n (pc := 0) hV dX2_bitOf_0 rfl rfl ?_
  refine zr_iconst (pc := 1) hV 5 dX2_bitOf_1 rfl ?_
  refine zr_icmp_lt (pc := 2) hV 10 dX2_bitOf_2 (by decide) (by omega) ⟨by decide, by decide⟩ (fun c1 => ?_) (fun c1 => ?_)
  · show V 10 [some (ZI slot)] [] 284 σ
    refine zr_iconst (pc := 10) hV 1 dX2_bitOf_10 rfl ?_
    refine zr_iload_n (pc := 11) hV dX2_bitOf_11 rfl rfl ?_
    refine zr_ishl (pc := 12) hV dX2_bitOf_12 ?_
    have t2 := zx_shl_one (y := slot) 4 16 (by decide) (by decide) (by omega)
    show V 13 [some (ZI slot)] [ZI (zq_shl 1 slot)] 284 σ
    exact zr_iret (pc := 13) hV dX2_bitOf_13 rfl rfl ⟨rfl, _, rfl, (by omega), ⟨by omega, (by unfold zn_bit; rw [if_pos (by omega)]; exact zs.1)⟩⟩
  · show V 5 [some (ZI slot)] [] 284 σ
    refine zr_bipush (pc := 5) hV 32 dX2_bitOf_5 (by decide) ?_
    refine zr_goto (pc := 7) hV 13 dX2_bitOf_7 (by decide) ?_
    show V 13 [some (ZI slot)] [ZI 32] 284 σ
    exact zr_iret (pc := 13) hV dX2_bitOf_13 rfl rfl ⟨rfl, _, rfl, ⟨by decide, by decide⟩, ⟨by omega, (by unfold zn_bit; rw [if_neg (by omega)])⟩⟩
set_option maxHeartbeats 800000 in
theorem c_X2_valuesOf_2 {σ : zq_S} (slot : Int) (q0 : 0 ≤ slot ∧ slot ≤ 9) : zq_C zc_w yX2_valuesOf cX2_valuesOf 1 (some .int) 0 0 284 284 [ZI slot] σ (zq_pp σ (fun r => (2 ≤ r ∧ r ≤ 4) ∧ r = zn_v slot)) := by
  refine zq_C_of (by decide) (Nat.le_refl _) (Nat.le_of_ble_eq_true rfl) [some (ZI slot)] rfl (fun V hV => ?_)
  show V 0 [some (ZI slot)] [] 284 σ
  refine zr_iload_n (pc := 0) hV dX2_valuesOf_0 rfl rfl ?_
  refine zr_iconst (pc := 1) hV 3 dX2_valuesOf_1 rfl ?_
  refine zr_icmp_ne (pc := 2) hV 9 dX2_valuesOf_2 (by decide) (by omega) ⟨by decide, by decide⟩ (fun c1 => ?_) (fun c1 => ?_)
  · show V 9 [some (ZI slot)] [] 284 σ
    refine zr_iconst (pc := 9) hV 4 dX2_valuesOf_9 rfl ?_
    show V 10 [some (ZI slot)] [ZI 4] 284 σ
    exact zr_iret (pc := 10) hV dX2_valuesOf_10 rfl rfl ⟨rfl, _, rfl, ⟨by decide, by decide⟩, ⟨by omega, (by unfold zn_v; first | rw [if_pos (by omega)] | rw [if_neg (by omega)])⟩⟩
  · show V 5 [some (ZI slot)] [] 284 σ
    refine zr_iconst (pc := 5) hV 2 dX2_valuesOf_5 rfl ?_
    refine zr_goto (pc := 6) hV 10 dX2_valuesOf_6 (by decide) ?_
    show V 10 [some (ZI slot)] [ZI 2] 284 σ
    exact zr_iret (pc := 10) hV dX2_valuesOf_10 rfl rfl ⟨rfl, _, rfl, ⟨by decide, by decide⟩, ⟨by omega, (by unfold zn_v; first | rw [if_pos (by omega)] | rw [if_neg (by omega)])⟩⟩
set_option maxHeartbeats 800000 in
theorem c_X2_startOver_2 {σ : zq_S} (hσ : zc_T σ)   : zq_C zc_w yX2_startOver cX2_startOver 1 (none) 1 23 284 284 [ZR 134] σ (zq_pv (fun τ => zc_T τ ∧ zc_Fr [(134, 5), (135, -1)] σ τ ∧ (τ 134 5 = 0) ∧ zq_hid (∀ x, 0 ≤ x → x ≤ 9 → τ 135 x = -1))) := by
  refine zq_C_of (by decide) (Nat.le_refl _) (Nat.le_of_ble_eq_true rfl) [some (ZR 134)] rfl (fun V hV => ?_)
  have hFσ := zc_Fr_rf [(134, 5), (135, -1)] σ
  show V 0 [some (ZR 134)] [] 284 σ
  refine zr_aload_n (pc := 0) hV dX2_startOver_0 rfl rfl ?_
  refine zr_getR (pc := 1) hV 1 135 dX2_startOver_1 fX2_11 rfl rfl (zc_k134 zc_s134) (zc_pos zc_s134 rfl) (zc_g134_1 hσ zc_s134) (by decide) ?_
  refine zr_iconst (pc := 4) hV (-1) dX2_startOver_4 rfl ?_
  refine zr_callSv (pc := 5) hV [ZR 135, ZI (-1)] (st := []) (c_fill (σ := σ) hσ 135 (-1) zc_s135 rfl rfl ⟨by decide, by decide⟩ (fun _ => ⟨by omega, by omega⟩)) dX2_startOver_5 mX2_28 (by decide) (Nat.le_of_ble_eq_true rfl) (Nat.le_refl _) (fun σ5 pσ5 => ?_)
  obtain ⟨hσ5, hfσ5, pσ5⟩ := pσ5
  have hFσ5 := zc_Fc hfσ5 rfl hFσ
  refine zr_aload_n (pc := 8) hV dX2_startOver_8 rfl rfl ?_
  refine zr_iconst (pc := 9) hV 0 dX2_startOver_9 rfl ?_
  refine zr_putI (pc := 10) hV 5 dX2_startOver_10 fX2_34 rfl rfl rfl (zc_k134 zc_s134) (zc_pos zc_s134 rfl) (fun σ10 eσ10 => ?_)
  have hσ10 : zc_T σ10 := zc_u134_5 eσ10 hσ5 zc_s134 (by omega)
  have hFσ10 := zc_Fw eσ10 zc_s134 rfl hFσ5
  have t1 := zc_g134_5 hσ10 zc_s134
  have t2 : σ10 134 5 = 0 := by rw [eσ10]; exact zq_up_same _ _ _ _
  exact zr_vret (pc := 13) hV dX2_startOver_13 rfl rfl ⟨rfl, hσ10, hFσ10, (by omega), (show ∀ x, 0 ≤ x → x ≤ 9 → σ10 135 x = -1 from (fun x x0 x9 => by rw [eσ10, zq_up_ne (by omega)]; exact pσ5.1 x x0 (by omega)))⟩
set_option maxHeartbeats 800000 in
theorem c_X2_goToNext_2 {σ : zq_S} (hσ : zc_T σ)   : zq_C zc_w yX2_goToNext cX2_goToNext 3 (some .boolean) 1 20 284 284 [ZR 134] σ (zq_pi (fun r τ => zc_T τ ∧ zc_Fr [(134, 5), (135, -1)] σ τ ∧ ((0 ≤ r ∧ r ≤ 1)) ∧ zq_hid (zn_gn σ τ r))) := by
  refine zq_C_of (by decide) (Nat.le_refl _) (Nat.le_of_ble_eq_true rfl) [some (ZR 134), none, none] rfl (fun V hV => ?_)
  have hFσ := zc_Fr_rf [(134, 5), (135, -1)] σ
  show V 0 [some (ZR 134), none, none] [] 284 σ
  refine zr_aload_n (pc := 0) hV dX2_goToNext_0 rfl rfl ?_
  refine zr_getI (pc := 1) hV 5 dX2_goToNext_1 fX2_34 rfl rfl (zc_k134 zc_s134) (zc_pos zc_s134 rfl) ?_
  have t1 := zc_g134_5 hσ zc_s134
  refine zr_istore_n (pc := 4) hV [some (ZR 134), some (ZI (σ 134 5)), none] dX2_goToNext_4 rfl (by decide) rfl rfl ?_
  have L5 : ∀ (fuel : Nat) (x1_5 : Int) (σ_5 : zq_S), (0 ≤ x1_5 ∧ x1_5 ≤ 10) → (zc_T σ_5) → (zc_Fr [(134, 5), (135, -1)] σ σ_5) → (σ_5 134 5 = x1_5) → (zq_hid (zn_go σ σ_5)) → x1_5 - 0 < (fuel : Int) → V 5 [some (ZR 134), some (ZI x1_5), none] [] 284 σ_5 := by
    intro fuel
    induction fuel with
    | zero =>
      intro x1_5 σ_5 hx1_5 hσ_5 hFσ_5 hi5_0 hi5_1 hm5
      exfalso; omega
    | succ fuel ih =>
      intro x1_5 σ_5 hx1_5 hσ_5 hFσ_5 hi5_0 hi5_1 hm5
      have ih5 := ih
      show V 5 [some (ZR 134), some (ZI x1_5), none] [] 284 σ_5
      refine zr_iload_n (pc := 5) hV dX2_goToNext_5 rfl rfl ?_
      refine zr_if_le (pc := 6) hV 65 dX2_goToNext_6 (by decide) (by omega) (fun c2 => ?_) (fun c2 => ?_)
      · show V 65 [some (ZR 134), some (ZI x1_5), none] [] 284 σ_5
        refine zr_iconst (pc := 65) hV 0 dX2_goToNext_65 rfl ?_
        exact zr_zret (pc := 66) hV dX2_goToNext_66 rfl rfl (by omega) ⟨_, rfl, ⟨by decide, by decide⟩, hσ_5, hFσ_5, (by omega), (show zn_gn σ σ_5 (0 : Int) from (zn_go_end (by omega) hi5_1))⟩
      · show V 9 [some (ZR 134), some (ZI x1_5), none] [] 284 σ_5
        refine zr_aload_n (pc := 9) hV dX2_goToNext_9 rfl rfl ?_
        refine zr_getR (pc := 10) hV 4 138 dX2_goToNext_10 fX2_21 rfl rfl (zc_k134 zc_s134) (zc_pos zc_s134 rfl) (zc_g134_4 hσ_5 zc_s134) (by decide) ?_
        refine zr_iload_n (pc := 13) hV dX2_goToNext_13 rfl rfl ?_
        refine zr_iconst (pc := 14) hV 1 dX2_goToNext_14 rfl ?_
        refine zr_isub (pc := 15) hV dX2_goToNext_15 ?_
        refine zr_iald (pc := 16) hV dX2_goToNext_16 (zc_k138 zc_s138) (zc_pos zc_s138 rfl) rfl (by omega) ?_
        have t3 := zc_ga138 hσ_5 zc_s138 (x1_5 - 1)
        have t4 : σ_5 138 (x1_5 - 1) = σ 138 (x1_5 - 1) := hFσ_5 _ _ (zc_out_ar zc_s138 rfl)
        refine zr_istore_n (pc := 17) hV [some (ZR 134), some (ZI x1_5), some (ZI (σ_5 138 (x1_5 - 1)))] dX2_goToNext_17 rfl (by decide) rfl rfl ?_
        refine zr_aload_n (pc := 18) hV dX2_goToNext_18 rfl rfl ?_
        refine zr_getR (pc := 19) hV 1 135 dX2_goToNext_19 fX2_11 rfl rfl (zc_k134 zc_s134) (zc_pos zc_s134 rfl) (zc_g134_1 hσ_5 zc_s134) (by decide) ?_
        refine zr_iload_n (pc := 22) hV dX2_goToNext_22 rfl rfl ?_
        refine zr_iald (pc := 23) hV dX2_goToNext_23 (zc_k135 zc_s135) (zc_pos zc_s135 rfl) rfl (by omega) ?_
        have t5 := zc_ga135 hσ_5 zc_s135 (σ_5 138 (x1_5 - 1))
        refine zr_iconst (pc := 24) hV 1 dX2_goToNext_24 rfl ?_
        refine zr_iadd (pc := 25) hV dX2_goToNext_25 ?_
        refine zr_iload_n (pc := 26) hV dX2_goToNext_26 rfl rfl ?_
        refine zr_callSp (pc := 27) hV [ZI (σ_5 138 (x1_5 - 1))] (st := [ZI ((σ_5 135 (σ_5 138 (x1_5 - 1))) + 1)]) (c_X2_valuesOf_2 (σ := σ_5) (σ_5 138 (x1_5 - 1)) (by omega)) dX2_goToNext_27 mX2_37 (by decide) (Nat.le_of_ble_eq_true rfl) (Nat.le_refl _) (fun r27 hr27 pr27 => ?_)
        refine zr_icmp_ge (pc := 30) hV 45 dX2_goToNext_30 (by decide) (by omega) (by omega) (fun c6 => ?_) (fun c6 => ?_)
        · show V 45 [some (ZR 134), some (ZI x1_5), some (ZI (σ_5 138 (x1_5 - 1)))] [] 284 σ_5
          refine zr_aload_n (pc := 45) hV dX2_goToNext_45 rfl rfl ?_
          refine zr_getR (pc := 46) hV 1 135 dX2_goToNext_46 fX2_11 rfl rfl (zc_k134 zc_s134) (zc_pos zc_s134 rfl) (zc_g134_1 hσ_5 zc_s134) (by decide) ?_
          refine zr_iload_n (pc := 49) hV dX2_goToNext_49 rfl rfl ?_
          refine zr_iconst (pc := 50) hV (-1) dX2_goToNext_50 rfl ?_
          refine zr_iast (pc := 51) hV dX2_goToNext_51 (zc_k135 zc_s135) (zc_pos zc_s135 rfl) rfl (by omega) (fun σ51 eσ51 => ?_)
          have hσ51 : zc_T σ51 := zc_ua135 eσ51 hσ_5 zc_s135 (by omega)
          have hFσ51 := zc_Fa eσ51 zc_s135 rfl hFσ_5
          refine zr_aload_n (pc := 52) hV dX2_goToNext_52 rfl rfl ?_
          refine zr_iload_n (pc := 53) hV dX2_goToNext_53 rfl rfl ?_
          refine zr_iconst (pc := 54) hV 1 dX2_goToNext_54 rfl ?_
          refine zr_isub (pc := 55) hV dX2_goToNext_55 ?_
          refine zr_putI (pc := 56) hV 5 dX2_goToNext_56 fX2_34 rfl rfl rfl (zc_k134 zc_s134) (zc_pos zc_s134 rfl) (fun σ56 eσ56 => ?_)
          have hσ56 : zc_T σ56 := zc_u134_5 eσ56 hσ51 zc_s134 (by omega)
          have hFσ56 := zc_Fw eσ56 zc_s134 rfl hFσ51
          refine zr_iinc (pc := 59) hV [some (ZR 134), some (ZI (x1_5 + (-1))), some (ZI (σ_5 138 (x1_5 - 1)))] (x1_5 + (-1)) dX2_goToNext_59 rfl rfl (by decide) rfl rfl ?_
          refine zr_goto (pc := 62) hV 5 dX2_goToNext_62 (by decide) ?_
          have t7 := zc_g134_5 hσ56 zc_s134
          have t8 : σ56 134 5 = x1_5 - 1 := by rw [eσ56]; exact zq_up_same _ _ _ _
          refine zr_sub (pc := 5) hV [some (ZR 134), some (ZI (x1_5 + (-1))), none] (⟨rfl, rfl, trivial⟩) ?_
          exact ih5 (x1_5 + (-1)) σ56 (by omega) hσ56 hFσ56 (by omega) (zn_go_pop (by omega) (x := σ_5 138 (x1_5 - 1)) (by rw [show σ_5 134 5 = x1_5 by omega]) (by omega) eσ51 (by rw [show σ_5 134 5 = x1_5 by omega]; exact eσ56) hi5_1) (by omega)
        · show V 33 [some (ZR 134), some (ZI x1_5), some (ZI (σ_5 138 (x1_5 - 1)))] [] 284 σ_5
          refine zr_aload_n (pc := 33) hV dX2_goToNext_33 rfl rfl ?_
          refine zr_getR (pc := 34) hV 1 135 dX2_goToNext_34 fX2_11 rfl rfl (zc_k134 zc_s134) (zc_pos zc_s134 rfl) (zc_g134_1 hσ_5 zc_s134) (by decide) ?_
          refine zr_iload_n (pc := 37) hV dX2_goToNext_37 rfl rfl ?_
          refine zr_dup2 (pc := 38) hV dX2_goToNext_38 (fun _ => rfl) (fun _ => rfl) ?_
          refine zr_iald (pc := 39) hV dX2_goToNext_39 (zc_k135 zc_s135) (zc_pos zc_s135 rfl) rfl (by omega) ?_
          have t9 := zc_ga135 hσ_5 zc_s135 (σ_5 138 (x1_5 - 1))
          refine zr_iconst (pc := 40) hV 1 dX2_goToNext_40 rfl ?_
          refine zr_iadd (pc := 41) hV dX2_goToNext_41 ?_
          refine zr_iast (pc := 42) hV dX2_goToNext_42 (zc_k135 zc_s135) (zc_pos zc_s135 rfl) rfl (by omega) (fun σ42 eσ42 => ?_)
          have hσ42 : zc_T σ42 := zc_ua135 eσ42 hσ_5 zc_s135 (by omega)
          have hFσ42 := zc_Fa eσ42 zc_s135 rfl hFσ_5
          refine zr_iconst (pc := 43) hV 1 dX2_goToNext_43 rfl ?_
          exact zr_zret (pc := 44) hV dX2_goToNext_44 rfl rfl (by omega) ⟨_, rfl, ⟨by decide, by decide⟩, hσ42, hFσ42, (by omega), (show zn_gn σ σ42 (1 : Int) from (zn_go_inc (by omega) (x := σ_5 138 (x1_5 - 1)) (by rw [show σ_5 134 5 = x1_5 by omega]) (by omega) eσ42 hi5_1))⟩
  have t10 := zc_g134_5 hσ zc_s134
  exact L5 ((σ 134 5) - 0 + 1 : Int).toNat (σ 134 5) σ (by omega) hσ hFσ (by omega) zn_go_0 (by omega)
set_option maxHeartbeats 800000 in
theorem c_X2_changedBy_2 {σ : zq_S} (hσ : zc_T σ) (order : Int) (korder : zc_kd order = 4) (q0 : zq_hid (zw_oo σ order)) (q1 : zq_hid (zn_H σ)) : zq_C zc_w yX2_changedBy cX2_changedBy 4 (some .int) 5 109 284 284 [ZR 134, ZR order] σ (zq_pi (fun r τ => zc_T τ ∧ zc_Fr [(134, 5), (135, -1), (136, -1), (138, -1)] σ τ ∧ ((0 ≤ r ∧ r ≤ 63)) ∧ zq_hid (zn_G σ τ ∧ zn_cI (zw_ra σ order) 0 (σ order 4) (σ order 5) (σ order 6) τ r 9))) := by
  refine zq_C_of (by decide) (Nat.le_refl _) (Nat.le_of_ble_eq_true rfl) [some (ZR 134), some (ZR order), none, none] rfl (fun V hV => ?_)
  have poorder := zc_pos korder rfl
  have hFσ := zc_Fr_rf [(134, 5), (135, -1), (136, -1), (138, -1)] σ
  show V 0 [some (ZR 134), some (ZR order), none, none] [] 284 σ
  refine zr_iconst (pc := 0) hV 0 dX2_changedBy_0 rfl ?_
  refine zr_istore_n (pc := 1) hV [some (ZR 134), some (ZR order), some (ZI 0), none] dX2_changedBy_1 rfl (by decide) rfl rfl ?_
  refine zr_aload_n (pc := 2) hV dX2_changedBy_2 rfl rfl ?_
  refine zr_aload_n (pc := 3) hV dX2_changedBy_3 rfl rfl ?_
  refine zr_callVv (pc := 4) hV [ZR order] (st := []) (c_X2_doAfresh_2 (σ := σ) hσ order korder q0 q1) dX2_changedBy_4 mX2_100 (zc_k134 zc_s134) (zc_pos zc_s134 rfl) (by decide) (Nat.le_of_ble_eq_true rfl) (Nat.le_refl _) (fun σ4 pσ4 => ?_)
  obtain ⟨hσ4, hfσ4, pσ4, wσ4⟩ := pσ4
  have hFσ4 := zc_Fc hfσ4 rfl hFσ
  have t1 := zc_g4_4 hσ korder
  have t2 := zc_g4_5 hσ korder
  have t3 := zc_g4_6 hσ korder
  refine zr_iconst (pc := 7) hV 0 dX2_changedBy_7 rfl ?_
  refine zr_istore_n (pc := 8) hV [some (ZR 134), some (ZR order), some (ZI 0), some (ZI 0)] dX2_changedBy_8 rfl (by decide) rfl rfl ?_
  have L9 : ∀ (fuel : Nat) (x2_9 : Int) (x3_9 : Int) (σ_9 : zq_S), (0 ≤ x2_9 ∧ x2_9 ≤ 63) → (0 ≤ x3_9 ∧ x3_9 ≤ 9) → (zc_T σ_9) → (zc_Fr [(134, 5), (135, -1), (136, -1), (138, -1)] σ σ_9) → (zq_hid (zn_G σ σ_9)) → (zq_hid (∀ i, σ_9 136 i = σ4 136 i)) → (zq_hid (∀ s, zn_st s → zn_cp σ_9 s → ∀ x, 0 ≤ x → x ≤ 8 → zn_cv σ_9 s x = zn_o (zw_ra σ order) 0 (σ order 4) (σ order 5) (σ order 6) s x)) → (zq_hid (zn_cI (zw_ra σ order) 0 (σ order 4) (σ order 5) (σ order 6) σ_9 x2_9 x3_9)) → (0 ≤ x2_9 ∧ x2_9 ≤ 63) → (x3_9 ≤ 9) → 9 - x3_9 < (fuel : Int) → V 9 [some (ZR 134), none, some (ZI x2_9), some (ZI x3_9)] [] 284 σ_9 := by
    intro fuel
    induction fuel with
    | zero =>
      intro x2_9 x3_9 σ_9 hx2_9 hx3_9 hσ_9 hFσ_9 hi9_0 hi9_1 hi9_2 hi9_3 hi9_4 hi9_5 hm9
      exfalso; omega
    | succ fuel ih =>
      intro x2_9 x3_9 σ_9 hx2_9 hx3_9 hσ_9 hFσ_9 hi9_0 hi9_1 hi9_2 hi9_3 hi9_4 hi9_5 hm9
      have ih9 := ih
      show V 9 [some (ZR 134), none, some (ZI x2_9), some (ZI x3_9)] [] 284 σ_9
      refine zr_iload_n (pc := 9) hV dX2_changedBy_9 rfl rfl ?_
      refine zr_bipush (pc := 10) hV 9 dX2_changedBy_10 (by decide) ?_
      refine zr_icmp_ge (pc := 12) hV 52 dX2_changedBy_12 (by decide) (by omega) ⟨by decide, by decide⟩ (fun c4 => ?_) (fun c4 => ?_)
      · show V 52 [some (ZR 134), none, some (ZI x2_9), some (ZI x3_9)] [] 284 σ_9
        refine zr_iload_n (pc := 52) hV dX2_changedBy_52 rfl rfl ?_
        exact zr_iret (pc := 53) hV dX2_changedBy_53 rfl rfl ⟨_, rfl, (by omega), hσ_9, hFσ_9, (by omega), (show zn_G σ σ_9 ∧ zn_cI (zw_ra σ order) 0 (σ order 4) (σ order 5) (σ order 6) σ_9 x2_9 9 from ⟨hi9_0, by have h := hi9_3; unfold zq_hid at h; rw [show x3_9 = 9 by omega] at h; exact h⟩)⟩
      · show V 15 [some (ZR 134), none, some (ZI x2_9), some (ZI x3_9)] [] 284 σ_9
        refine zr_aload_n (pc := 15) hV dX2_changedBy_15 rfl rfl ?_
        refine zr_getR (pc := 16) hV 2 136 dX2_changedBy_16 fX2_15 rfl rfl (zc_k134 zc_s134) (zc_pos zc_s134 rfl) (zc_g134_2 hσ_9 zc_s134) (by decide) ?_
        refine zr_iload_n (pc := 19) hV dX2_changedBy_19 rfl rfl ?_
        refine zr_iald (pc := 20) hV dX2_changedBy_20 (zc_k136 zc_s136) (zc_pos zc_s136 rfl) rfl (by omega) ?_
        have t5 := zc_ga136 hσ_9 zc_s136 x3_9
        refine zr_iconst (pc := 21) hV (-1) dX2_changedBy_21 rfl ?_
        refine zr_icmp_eq (pc := 22) hV 46 dX2_changedBy_22 (by decide) (by omega) ⟨by decide, by decide⟩ (fun c6 => ?_) (fun c6 => ?_)
        · show V 46 [some (ZR 134), none, some (ZI x2_9), some (ZI x3_9)] [] 284 σ_9
          refine zr_iinc (pc := 46) hV [some (ZR 134), none, some (ZI x2_9), some (ZI (x3_9 + 1))] (x3_9 + 1) dX2_changedBy_46 rfl rfl (by decide) rfl rfl ?_
          refine zr_goto (pc := 49) hV 9 dX2_changedBy_49 (by decide) ?_
          exact ih9 x2_9 (x3_9 + 1) σ_9 (by omega) (by omega) hσ_9 hFσ_9 hi9_0 hi9_1 hi9_2 (zn_cI_n (by omega) (zn_G_r σ_9).2 hi9_3 (fun s hs hc => (hi9_2 s hs hc x3_9 (by omega) (by omega)).symm.trans (if_neg (fun q => q.2 (by omega))))) (by omega) (by omega) (by omega)
        · show V 25 [some (ZR 134), none, some (ZI x2_9), some (ZI x3_9)] [] 284 σ_9
          refine zr_aload_n (pc := 25) hV dX2_changedBy_25 rfl rfl ?_
          refine zr_getR (pc := 26) hV 2 136 dX2_changedBy_26 fX2_15 rfl rfl (zc_k134 zc_s134) (zc_pos zc_s134 rfl) (zc_g134_2 hσ_9 zc_s134) (by decide) ?_
          refine zr_iload_n (pc := 29) hV dX2_changedBy_29 rfl rfl ?_
          refine zr_iald (pc := 30) hV dX2_changedBy_30 (zc_k136 zc_s136) (zc_pos zc_s136 rfl) rfl (by omega) ?_
          have t7 := zc_ga136 hσ_9 zc_s136 x3_9
          refine zr_aload_n (pc := 31) hV dX2_changedBy_31 rfl rfl ?_
          refine zr_iload_n (pc := 32) hV dX2_changedBy_32 rfl rfl ?_
          refine zr_callVi (pc := 33) hV [ZI x3_9] (st := [ZI (σ_9 136 x3_9)]) (c_X2_aheadIn_2 (σ := σ_9) hσ_9 x3_9 (by omega) (zn_H_G q1 hi9_0)) dX2_changedBy_33 mX2_41 (zc_k134 zc_s134) (zc_pos zc_s134 rfl) (by decide) (Nat.le_of_ble_eq_true rfl) (Nat.le_refl _) (fun r33 σ33 hr33 pσ33 => ?_)
          obtain ⟨hσ33, hfσ33, pσ33, wσ33⟩ := pσ33
          have hFσ33 := zc_Fc hfσ33 rfl hFσ_9
          refine zr_icmp_eq (pc := 36) hV 46 dX2_changedBy_36 (by decide) (by omega) (by omega) (fun c8 => ?_) (fun c8 => ?_)
          · show V 46 [some (ZR 134), none, some (ZI x2_9), some (ZI x3_9)] [] 284 σ33
            refine zr_iinc (pc := 46) hV [some (ZR 134), none, some (ZI x2_9), some (ZI (x3_9 + 1))] (x3_9 + 1) dX2_changedBy_46 rfl rfl (by decide) rfl rfl ?_
            refine zr_goto (pc := 49) hV 9 dX2_changedBy_49 (by decide) ?_
            exact ih9 x2_9 (x3_9 + 1) σ33 (by omega) (by omega) hσ33 hFσ33 (zn_G_t q1 hi9_0 wσ33.1) (fun i => (hfσ33 136 i (zc_out_ar zc_s136 rfl)).trans (hi9_1 i)) (fun s hs hc x x0 x8 => by rw [zn_cv_c (fun i => hfσ33 136 i (zc_out_ar zc_s136 rfl))]; exact hi9_2 s hs (zn_cp_X wσ33.1.2 hc) x x0 x8) (zn_cI_n (by omega) wσ33.1.2 hi9_3 (fun s hs hc => by have e1 := hi9_2 s hs (zn_cp_X wσ33.1.2 hc) x3_9 (by omega) (by omega); have e2 : zn_cv σ_9 s x3_9 = σ_9 136 x3_9 := if_pos ⟨by omega, by omega⟩; have e3 := hc x3_9 (by omega) (by omega) (by have z := wσ33.2; omega); have z := wσ33.2; rw [← e1, e2]; omega)) (by omega) (by omega) (by omega)
          · show V 39 [some (ZR 134), none, some (ZI x2_9), some (ZI x3_9)] [] 284 σ33
            refine zr_iload_n (pc := 39) hV dX2_changedBy_39 rfl rfl ?_
            refine zr_iload_n (pc := 40) hV dX2_changedBy_40 rfl rfl ?_
            refine zr_callSp (pc := 41) hV [ZI x3_9] (st := [ZI x2_9]) (c_X2_bitOf_2 (σ := σ33) x3_9 (by omega)) dX2_changedBy_41 mX2_59 (by decide) (Nat.le_of_ble_eq_true rfl) (Nat.le_refl _) (fun r41 hr41 pr41 => ?_)
            refine zr_ior (pc := 44) hV dX2_changedBy_44 ?_
            have t9 := zq_or_b (x := x2_9) (y := r41) 9 512 (by decide) (by decide) (by omega) (by omega)
            have or63 := zn_or63 (b := x2_9) (c := r41) ⟨by omega, by omega⟩ (by have bb := (zn_bit_b (x := x3_9) ⟨by omega, by omega⟩).1; have z := pr41.2; omega)
            refine zr_istore_n (pc := 45) hV [some (ZR 134), none, some (ZI (zq_or x2_9 r41)), some (ZI x3_9)] dX2_changedBy_45 rfl (by decide) rfl rfl ?_
            show V 46 [some (ZR 134), none, some (ZI (zq_or x2_9 r41)), some (ZI x3_9)] [] 284 σ33
            refine zr_iinc (pc := 46) hV [some (ZR 134), none, some (ZI (zq_or x2_9 r41)), some (ZI (x3_9 + 1))] (x3_9 + 1) dX2_changedBy_46 rfl rfl (by decide) rfl rfl ?_
            refine zr_goto (pc := 49) hV 9 dX2_changedBy_49 (by decide) ?_
            exact ih9 (zq_or x2_9 r41) (x3_9 + 1) σ33 (by omega) (by omega) hσ33 hFσ33 (zn_G_t q1 hi9_0 wσ33.1) (fun i => (hfσ33 136 i (zc_out_ar zc_s136 rfl)).trans (hi9_1 i)) (fun s hs hc x x0 x8 => by rw [zn_cv_c (fun i => hfσ33 136 i (zc_out_ar zc_s136 rfl))]; exact hi9_2 s hs (zn_cp_X wσ33.1.2 hc) x x0 x8) (zn_cI_y ⟨by omega, by omega⟩ wσ33.1.2 hi9_3 pr41.2 (fun s hs hc => by have e1 := hi9_2 s hs (zn_cp_X wσ33.1.2 hc) x3_9 (by omega) (by omega); have e2 : zn_cv σ_9 s x3_9 = σ_9 136 x3_9 := if_pos ⟨by omega, by omega⟩; have e3 := hc x3_9 (by omega) (by omega) (by have z := wσ33.2; omega); have z := wσ33.2; rw [← e1, e2]; omega)) (by omega) (by omega) (by omega)
  refine zr_sub (pc := 9) hV [some (ZR 134), none, some (ZI 0), some (ZI 0)] (⟨rfl, rfl, rfl, trivial⟩) ?_
  exact L9 (9 - (0 : Int) + 1 : Int).toNat 0 0 σ4 (by omega) (by omega) hσ4 hFσ4 wσ4.1 (fun _ => rfl) wσ4.2.2 zn_cI_0 (by omega) (by omega) (by omega)
set_option maxHeartbeats 800000 in
theorem c_X2_whatWrites_2 {σ : zq_S} (hσ : zc_T σ) (order : Int) (korder : zc_kd order = 4) (q0 : zq_hid (zw_oo σ order)) (q1 : σ 134 0 = 3) (q2 : zq_hid (σ order 16 = -1 ∨ zn_Wm (zw_ra σ order) 0 (σ order 4) (σ order 5) (σ order 6) (σ order 16))) (q3 : zq_hid (∀ s, zn_st s → ∀ i : Nat, zn_cb (zw_ra σ order) 0 (σ order 4) (σ order 5) (σ order 6) s i → zw_tb (σ order 13) i)) : zq_C zc_w yX2_whatWrites cX2_whatWrites 4 (some .int) 6 132 284 284 [ZR 134, ZR order] σ (zq_pi (fun r τ => zc_T τ ∧ zc_Fr [(4, 16), (134, 5), (135, -1), (136, -1), (138, -1)] σ τ ∧ (True) ∧ zq_hid (zn_Wm (zw_ra σ order) 0 (σ order 4) (σ order 5) (σ order 6) r ∧ τ order 16 = r ∧ ∀ b, zc_kd b = 4 → b ≠ order → τ b 16 = σ b 16))) := by
  refine zq_C_of (by decide) (Nat.le_refl _) (Nat.le_of_ble_eq_true rfl) [some (ZR 134), some (ZR order), none, none] rfl (fun V hV => ?_)
  have poorder := zc_pos korder rfl
  have hFσ := zc_Fr_rf [(4, 16), (134, 5), (135, -1), (136, -1), (138, -1)] σ
  show V 0 [some (ZR 134), some (ZR order), none, none] [] 284 σ
  refine zr_aload_n (pc := 0) hV dX2_whatWrites_0 rfl rfl ?_
  refine zr_getI (pc := 1) hV 16 dX2_whatWrites_1 fX2_90 rfl rfl (zc_k4 korder) (zc_pos korder rfl) ?_
  have t1 := zc_g4_16 hσ korder
  refine zr_iconst (pc := 4) hV (-1) dX2_whatWrites_4 rfl ?_
  refine zr_icmp_ne (pc := 5) hV 59 dX2_whatWrites_5 (by decide) (by omega) ⟨by decide, by decide⟩ (fun c2 => ?_) (fun c2 => ?_)
  · show V 59 [some (ZR 134), some (ZR order), none, none] [] 284 σ
    refine zr_aload_n (pc := 59) hV dX2_whatWrites_59 rfl rfl ?_
    refine zr_getI (pc := 60) hV 16 dX2_whatWrites_60 fX2_90 rfl rfl (zc_k4 korder) (zc_pos korder rfl) ?_
    have t3 := zc_g4_16 hσ korder
    have t4 := zc_g4_16 hσ korder
    exact zr_iret (pc := 63) hV dX2_whatWrites_63 rfl rfl ⟨_, rfl, (by omega), hσ, hFσ, trivial, (show zn_Wm (zw_ra σ order) 0 (σ order 4) (σ order 5) (σ order 6) (σ order 16) ∧ σ order 16 = (σ order 16) ∧ ∀ b, zc_kd b = 4 → b ≠ order → σ b 16 = σ b 16 from ⟨q2.resolve_left (by omega), rfl, fun _ _ _ => rfl⟩)⟩
  · show V 8 [some (ZR 134), some (ZR order), none, none] [] 284 σ
    refine zr_iconst (pc := 8) hV 0 dX2_whatWrites_8 rfl ?_
    refine zr_istore_n (pc := 9) hV [some (ZR 134), some (ZR order), some (ZI 0), none] dX2_whatWrites_9 rfl (by decide) rfl rfl ?_
    refine zr_aload_n (pc := 10) hV dX2_whatWrites_10 rfl rfl ?_
    refine zr_callVv (pc := 11) hV [] (st := []) (c_X2_startOver_2 (σ := σ) hσ) dX2_whatWrites_11 mX2_69 (zc_k134 zc_s134) (zc_pos zc_s134 rfl) (by decide) (Nat.le_of_ble_eq_true rfl) (Nat.le_refl _) (fun σ11 pσ11 => ?_)
    obtain ⟨hσ11, hfσ11, pσ11, wσ11⟩ := pσ11
    have hFσ11 := zc_Fc hfσ11 rfl hFσ
    have t5 := zc_g134_5 hσ11 zc_s134
    have W0 := zn_W_0 ((hfσ11 134 0 (zc_out_at zc_s134 rfl)).trans q1) pσ11 wσ11 (-1)
    refine zr_iconst (pc := 14) hV 0 dX2_whatWrites_14 rfl ?_
    refine zr_istore_n (pc := 15) hV [some (ZR 134), some (ZR order), some (ZI 0), some (ZI 0)] dX2_whatWrites_15 rfl (by decide) rfl rfl ?_
    have L16 : ∀ (fuel : Nat) (x2_16 : Int) (x3_16 : Int) (σ_16 : zq_S), (0 ≤ x2_16 ∧ x2_16 ≤ 63) → (0 ≤ x3_16 ∧ x3_16 ≤ 1000000) → (zc_T σ_16) → (zc_Fr [(4, 16), (134, 5), (135, -1), (136, -1), (138, -1)] σ σ_16) → (zq_hid (zn_W (-1) σ_16)) → (x3_16 ≤ zn_K σ_16) → (zq_hid (zn_wI (zw_ra σ order) 0 (σ order 4) (σ order 5) (σ order 6) σ_16 x2_16)) → (zq_hid (∀ b, zc_kd b = 4 → σ_16 b 16 = σ b 16)) → 1000000 - x3_16 < (fuel : Int) → V 16 [some (ZR 134), some (ZR order), some (ZI x2_16), some (ZI x3_16)] [] 284 σ_16 := by
      intro fuel
      induction fuel with
      | zero =>
        intro x2_16 x3_16 σ_16 hx2_16 hx3_16 hσ_16 hFσ_16 hi16_0 hi16_1 hi16_2 hi16_3 hm16
        exfalso; omega
      | succ fuel ih =>
        intro x2_16 x3_16 σ_16 hx2_16 hx3_16 hσ_16 hFσ_16 hi16_0 hi16_1 hi16_2 hi16_3 hm16
        have ih16 := ih
        show V 16 [some (ZR 134), some (ZR order), some (ZI x2_16), some (ZI x3_16)] [] 284 σ_16
        refine zr_iload_n (pc := 16) hV dX2_whatWrites_16 rfl rfl ?_
        refine zr_ldc (pc := 17) (v := 1000000) hV 1000000 dX2_whatWrites_17 kX2_72 (by decide) ?_
        have J54 : ∀ (x2_54 : Int) (σ_54 : zq_S), (0 ≤ x2_54 ∧ x2_54 ≤ 63) → (zc_T σ_54) → (zc_Fr [(4, 16), (134, 5), (135, -1), (136, -1), (138, -1)] σ σ_54) → (zq_hid (zn_Wm (zw_ra σ order) 0 (σ order 4) (σ order 5) (σ order 6) x2_54)) → (zq_hid (∀ b, zc_kd b = 4 → σ_54 b 16 = σ b 16)) → V 54 [none, some (ZR order), some (ZI x2_54), none] [] 284 σ_54 := by
          intro x2_54 σ_54 hx2_54 hσ_54 hFσ_54 hi54_0 hi54_1
          show V 54 [none, some (ZR order), some (ZI x2_54), none] [] 284 σ_54
          refine zr_aload_n (pc := 54) hV dX2_whatWrites_54 rfl rfl ?_
          refine zr_iload_n (pc := 55) hV dX2_whatWrites_55 rfl rfl ?_
          refine zr_putI (pc := 56) hV 16 dX2_whatWrites_56 fX2_90 rfl rfl rfl (zc_k4 korder) (zc_pos korder rfl) (fun σ56 eσ56 => ?_)
          have hσ56 : zc_T σ56 := zc_u4_16 eσ56 hσ_54 korder (by omega)
          have hFσ56 := zc_Fw eσ56 korder rfl hFσ_54
          show V 59 [none, some (ZR order), some (ZI x2_54), none] [] 284 σ56
          refine zr_aload_n (pc := 59) hV dX2_whatWrites_59 rfl rfl ?_
          refine zr_getI (pc := 60) hV 16 dX2_whatWrites_60 fX2_90 rfl rfl (zc_k4 korder) (zc_pos korder rfl) ?_
          have t6 := zc_g4_16 hσ56 korder
          have t7 : σ56 order 16 = x2_54 := by rw [eσ56]; exact zq_up_same _ _ _ _
          have t8 := zc_g4_16 hσ56 korder
          have t9 : σ56 order 16 = x2_54 := by rw [eσ56]; exact zq_up_same _ _ _ _
          exact zr_iret (pc := 63) hV dX2_whatWrites_63 rfl rfl ⟨_, rfl, (by omega), hσ56, hFσ56, trivial, (show zn_Wm (zw_ra σ order) 0 (σ order 4) (σ order 5) (σ order 6) (σ56 order 16) ∧ σ56 order 16 = (σ56 order 16) ∧ ∀ b, zc_kd b = 4 → b ≠ order → σ56 b 16 = σ b 16 from ⟨by rw [eσ56, zq_up_same]; exact hi54_0, rfl, fun b hb hn => by rw [eσ56, zq_up_ne (by omega)]; exact hi54_1 b hb⟩)⟩
        refine zr_icmp_ge (pc := 19) hV 54 dX2_whatWrites_19 (by decide) (by omega) ⟨by decide, by decide⟩ (fun c10 => ?_) (fun c10 => ?_)
        · refine zr_sub (pc := 54) hV [none, some (ZR order), some (ZI x2_16), none] (⟨rfl, rfl, trivial⟩) ?_
          exact J54 x2_16 σ_16 (by omega) hσ_16 hFσ_16 (by exfalso; have z := zn_K_le hi16_0; omega) hi16_3
        · show V 22 [some (ZR 134), some (ZR order), some (ZI x2_16), some (ZI x3_16)] [] 284 σ_16
          have ra16 : zw_ra σ_16 order = zw_ra σ order := zw_ra_fr (fun k i k2 k5 => by obtain rfl | rfl | rfl | rfl : k = 2 ∨ k = 3 ∨ k = 4 ∨ k = 5 := (by omega); exact hFσ_16 _ _ (zc_out_ar (zc_p4_2 korder) rfl); exact hFσ_16 _ _ (zc_out_ar (zc_p4_3 korder) rfl); exact hFσ_16 _ _ (zc_out_ar (zc_p4_4 korder) rfl); exact hFσ_16 _ _ (zc_out_ar (zc_p4_5 korder) rfl))
          have e416 : σ_16 order 4 = σ order 4 := hFσ_16 order 4 (zc_out_at korder rfl)
          have e516 : σ_16 order 5 = σ order 5 := hFσ_16 order 5 (zc_out_at korder rfl)
          have e616 : σ_16 order 6 = σ order 6 := hFσ_16 order 6 (zc_out_at korder rfl)
          have oo16 : zq_hid (zw_oo σ_16 order) := zw_oo_fr e416 e516 e616 (fun k i k2 k5 => by obtain rfl | rfl | rfl | rfl : k = 2 ∨ k = 3 ∨ k = 4 ∨ k = 5 := (by omega); exact hFσ_16 _ _ (zc_out_ar (zc_p4_2 korder) rfl); exact hFσ_16 _ _ (zc_out_ar (zc_p4_3 korder) rfl); exact hFσ_16 _ _ (zc_out_ar (zc_p4_4 korder) rfl); exact hFσ_16 _ _ (zc_out_ar (zc_p4_5 korder) rfl)) q0
          refine zr_iload_n (pc := 22) hV dX2_whatWrites_22 rfl rfl ?_
          refine zr_aload_n (pc := 23) hV dX2_whatWrites_23 rfl rfl ?_
          refine zr_aload_n (pc := 24) hV dX2_whatWrites_24 rfl rfl ?_
          refine zr_callVi (pc := 25) hV [ZR order] (st := [ZI x2_16]) (c_X2_changedBy_2 (σ := σ_16) hσ_16 order korder oo16 ⟨-1, hi16_0, zn_fs_n _⟩) dX2_whatWrites_25 mX2_93 (zc_k134 zc_s134) (zc_pos zc_s134 rfl) (by decide) (Nat.le_of_ble_eq_true rfl) (Nat.le_refl _) (fun r25 σ25 hr25 pσ25 => ?_)
          obtain ⟨hσ25, hfσ25, pσ25, wσ25⟩ := pσ25
          have hFσ25 := zc_Fc hfσ25 rfl hFσ_16
          have t11 := zc_g4_4 hσ_16 korder
          have t12 : σ_16 order 4 = σ order 4 := hFσ_16 _ _ (zc_out_at korder rfl)
          have t13 := zc_g4_5 hσ_16 korder
          have t14 : σ_16 order 5 = σ order 5 := hFσ_16 _ _ (zc_out_at korder rfl)
          have t15 := zc_g4_6 hσ_16 korder
          have t16 : σ_16 order 6 = σ order 6 := hFσ_16 _ _ (zc_out_at korder rfl)
          have W25 := wσ25.1.1 _ hi16_0 (zn_fs_n _)
          have K25 := zn_K_G hi16_0 wσ25.1
          have c25 := wσ25.2
          rw [ra16, e416, e516, e616] at c25
          have C25 := zn_wI_c hi16_0 wσ25.1 hi16_2 c25
          have A25 : σ25 order 13 = σ order 13 := hFσ25 order 13 (zc_out_at korder rfl)
          refine zr_ior (pc := 28) hV dX2_whatWrites_28 ?_
          have t17 := zq_or_b (x := x2_16) (y := r25) 6 64 (by decide) (by decide) (by omega) (by omega)
          refine zr_istore_n (pc := 29) hV [some (ZR 134), some (ZR order), some (ZI (zq_or x2_16 r25)), some (ZI x3_16)] dX2_whatWrites_29 rfl (by decide) rfl rfl ?_
          refine zr_iload_n (pc := 30) hV dX2_whatWrites_30 rfl rfl ?_
          refine zr_aload_n (pc := 31) hV dX2_whatWrites_31 rfl rfl ?_
          refine zr_getI (pc := 32) hV 13 dX2_whatWrites_32 fX2_97 rfl rfl (zc_k4 korder) (zc_pos korder rfl) ?_
          have t18 := zc_g4_13 hσ25 korder
          have t19 : σ25 order 13 = σ_16 order 13 := hfσ25 _ _ (zc_out_at korder rfl)
          have t20 : σ_16 order 13 = σ order 13 := hFσ_16 _ _ (zc_out_at korder rfl)
          refine zr_icmp_eq (pc := 35) hV 54 dX2_whatWrites_35 (by decide) (by omega) (by omega) (fun c21 => ?_) (fun c21 => ?_)
          · refine zr_sub (pc := 54) hV [none, some (ZR order), some (ZI (zq_or x2_16 r25)), none] (⟨rfl, rfl, trivial⟩) ?_
            exact J54 (zq_or x2_16 r25) σ25 (by omega) hσ25 hFσ25 (zn_wI_a C25 (by have z := q3; unfold zq_hid at z; rw [show zq_or x2_16 r25 = σ order 13 by omega]; exact z)) (fun b kb => (hfσ25 b 16 (zc_out_at kb rfl)).trans (hi16_3 b kb))
          · show V 38 [some (ZR 134), some (ZR order), some (ZI (zq_or x2_16 r25)), some (ZI x3_16)] [] 284 σ25
            refine zr_aload_n (pc := 38) hV dX2_whatWrites_38 rfl rfl ?_
            refine zr_callVi (pc := 39) hV [] (st := []) (c_X2_goToNext_2 (σ := σ25) hσ25) dX2_whatWrites_39 mX2_76 (zc_k134 zc_s134) (zc_pos zc_s134 rfl) (by decide) (Nat.le_of_ble_eq_true rfl) (Nat.le_refl _) (fun r39 σ39 hr39 pσ39 => ?_)
            obtain ⟨hσ39, hfσ39, pσ39, wσ39⟩ := pσ39
            have hFσ39 := zc_Fc hfσ39 rfl hFσ25
            refine zr_if_ne (pc := 42) hV 48 dX2_whatWrites_42 (by decide) (by omega) (fun c22 => ?_) (fun c22 => ?_)
            · show V 48 [some (ZR 134), some (ZR order), some (ZI (zq_or x2_16 r25)), some (ZI x3_16)] [] 284 σ39
              refine zr_iinc (pc := 48) hV [some (ZR 134), some (ZR order), some (ZI (zq_or x2_16 r25)), some (ZI (x3_16 + 1))] (x3_16 + 1) dX2_whatWrites_48 rfl rfl (by decide) rfl rfl ?_
              refine zr_goto (pc := 51) hV 16 dX2_whatWrites_51 (by decide) ?_
              exact ih16 (zq_or x2_16 r25) (x3_16 + 1) σ39 (by omega) (by omega) hσ39 hFσ39 (wσ39 _ W25).1 (by have z := ((wσ39 _ W25).2.2 (by omega)).1; omega) (zn_wI_s W25 C25 (by have h := wσ39; unfold zq_hid at h; rw [show r39 = 1 by omega] at h; exact h)) (fun b kb => (hfσ39 b 16 (zc_out_at kb rfl)).trans ((hfσ25 b 16 (zc_out_at kb rfl)).trans (hi16_3 b kb))) (by omega)
            · show V 45 [some (ZR 134), some (ZR order), some (ZI (zq_or x2_16 r25)), some (ZI x3_16)] [] 284 σ39
              refine zr_goto (pc := 45) hV 54 dX2_whatWrites_45 (by decide) ?_
              refine zr_sub (pc := 54) hV [none, some (ZR order), some (ZI (zq_or x2_16 r25)), none] (⟨rfl, rfl, trivial⟩) ?_
              exact J54 (zq_or x2_16 r25) σ39 (by omega) hσ39 hFσ39 (zn_wI_e W25 C25 (by have h := wσ39; unfold zq_hid at h; rw [show r39 = 0 by omega] at h; exact h)) (fun b kb => (hfσ39 b 16 (zc_out_at kb rfl)).trans ((hfσ25 b 16 (zc_out_at kb rfl)).trans (hi16_3 b kb)))
    exact L16 (1000000 - (0 : Int) + 1 : Int).toNat 0 0 σ11 (by omega) (by omega) hσ11 hFσ11 W0.1 (by have z := W0.2.1; omega) (zn_wI_0 W0.2.2) (fun b kb => hfσ11 b 16 (zc_out_at kb rfl)) (by omega)
set_option maxHeartbeats 800000 in
theorem c_X2_isUnlike_2 {σ : zq_S} (hσ : zc_T σ) (butFor : Int) (q0 : zq_in butFor) (q1 : zq_hid (zn_H σ)) (q2 : zq_hid (zn_Bh σ)) (q3 : zq_hid (zn_Fh σ)) : zq_C zc_w yX2_isUnlike cX2_isUnlike 4 (some .boolean) 2 42 284 284 [ZR 134, ZI butFor] σ (zq_pi (fun r τ => zc_T τ ∧ zc_Fr [(134, 5), (135, -1), (138, -1)] σ τ ∧ ((0 ≤ r ∧ r ≤ 1)) ∧ zq_hid (zn_G σ τ ∧ zn_ul σ τ butFor r))) := by
  refine zq_C_of (by decide) (Nat.le_refl _) (Nat.le_of_ble_eq_true rfl) [some (ZR 134), some (ZI butFor), none, none] rfl (fun V hV => ?_)
  have hFσ := zc_Fr_rf [(134, 5), (135, -1), (138, -1)] σ
  show V 0 [some (ZR 134), some (ZI butFor), none, none] [] 284 σ
  refine zr_iconst (pc := 0) hV 0 dX2_isUnlike_0 rfl ?_
  refine zr_istore_n (pc := 1) hV [some (ZR 134), some (ZI butFor), some (ZI 0), none] dX2_isUnlike_1 rfl (by decide) rfl rfl ?_
  have L2 : ∀ (fuel : Nat) (x2_2 : Int) (σ_2 : zq_S), (0 ≤ x2_2 ∧ x2_2 ≤ 9) → (zc_T σ_2) → (zc_Fr [(134, 5), (135, -1), (138, -1)] σ σ_2) → (zq_hid (zn_G σ σ_2)) → (zq_hid (zn_uI σ σ_2 butFor x2_2)) → (x2_2 ≤ 9) → 9 - x2_2 < (fuel : Int) → V 2 [some (ZR 134), some (ZI butFor), some (ZI x2_2), none] [] 284 σ_2 := by
    intro fuel
    induction fuel with
    | zero =>
      intro x2_2 σ_2 hx2_2 hσ_2 hFσ_2 hi2_0 hi2_1 hi2_2 hm2
      exfalso; omega
    | succ fuel ih =>
      intro x2_2 σ_2 hx2_2 hσ_2 hFσ_2 hi2_0 hi2_1 hi2_2 hm2
      have ih2 := ih
      show V 2 [some (ZR 134), some (ZI butFor), some (ZI x2_2), none] [] 284 σ_2
      refine zr_iload_n (pc := 2) hV dX2_isUnlike_2 rfl rfl ?_
      refine zr_bipush (pc := 3) hV 9 dX2_isUnlike_3 (by decide) ?_
      refine zr_icmp_ge (pc := 5) hV 70 dX2_isUnlike_5 (by decide) (by omega) ⟨by decide, by decide⟩ (fun c1 => ?_) (fun c1 => ?_)
      · show V 70 [some (ZR 134), some (ZI butFor), some (ZI x2_2), none] [] 284 σ_2
        refine zr_iconst (pc := 70) hV 0 dX2_isUnlike_70 rfl ?_
        exact zr_zret (pc := 71) hV dX2_isUnlike_71 rfl rfl (by omega) ⟨_, rfl, ⟨by decide, by decide⟩, hσ_2, hFσ_2, (by omega), (show zn_G σ σ_2 ∧ zn_ul σ σ_2 butFor (0 : Int) from ⟨hi2_0, by have h := hi2_1; unfold zq_hid at h; rw [show x2_2 = 9 by omega] at h; exact zn_ul_0 h⟩)⟩
      · show V 8 [some (ZR 134), some (ZI butFor), some (ZI x2_2), none] [] 284 σ_2
        refine zr_iload_n (pc := 8) hV dX2_isUnlike_8 rfl rfl ?_
        refine zr_iload_n (pc := 9) hV dX2_isUnlike_9 rfl rfl ?_
        refine zr_icmp_eq (pc := 10) hV 64 dX2_isUnlike_10 (by decide) (by omega) (by omega) (fun c2 => ?_) (fun c2 => ?_)
        · show V 64 [some (ZR 134), some (ZI butFor), some (ZI x2_2), none] [] 284 σ_2
          refine zr_iinc (pc := 64) hV [some (ZR 134), some (ZI butFor), some (ZI (x2_2 + 1)), none] (x2_2 + 1) dX2_isUnlike_64 rfl rfl (by decide) rfl rfl ?_
          refine zr_goto (pc := 67) hV 2 dX2_isUnlike_67 (by decide) ?_
          exact ih2 (x2_2 + 1) σ_2 (by omega) hσ_2 hFσ_2 hi2_0 (zn_uI_s (zn_G_r σ_2).2 hi2_1 (by by_cases c : x2_2 = butFor; exact Or.inl c; exact Or.inr (fun s _ _ => zn_uv_same (by omega) (by rw [← hFσ_2 137 x2_2 (zc_out_ar zc_s137 rfl), ← hFσ_2 136 x2_2 (zc_out_ar zc_s136 rfl)]; omega)))) (by omega) (by omega)
        · show V 13 [some (ZR 134), some (ZI butFor), some (ZI x2_2), none] [] 284 σ_2
          refine zr_aload_n (pc := 13) hV dX2_isUnlike_13 rfl rfl ?_
          refine zr_getR (pc := 14) hV 3 137 dX2_isUnlike_14 fX2_18 rfl rfl (zc_k134 zc_s134) (zc_pos zc_s134 rfl) (zc_g134_3 hσ_2 zc_s134) (by decide) ?_
          refine zr_iload_n (pc := 17) hV dX2_isUnlike_17 rfl rfl ?_
          refine zr_iald (pc := 18) hV dX2_isUnlike_18 (zc_k137 zc_s137) (zc_pos zc_s137 rfl) rfl (by omega) ?_
          have t3 := zc_ga137 hσ_2 zc_s137 x2_2
          have t4 : σ_2 137 x2_2 = σ 137 x2_2 := hFσ_2 _ _ (zc_out_ar zc_s137 rfl)
          refine zr_aload_n (pc := 19) hV dX2_isUnlike_19 rfl rfl ?_
          refine zr_getR (pc := 20) hV 2 136 dX2_isUnlike_20 fX2_15 rfl rfl (zc_k134 zc_s134) (zc_pos zc_s134 rfl) (zc_g134_2 hσ_2 zc_s134) (by decide) ?_
          refine zr_iload_n (pc := 23) hV dX2_isUnlike_23 rfl rfl ?_
          refine zr_iald (pc := 24) hV dX2_isUnlike_24 (zc_k136 zc_s136) (zc_pos zc_s136 rfl) rfl (by omega) ?_
          have t5 := zc_ga136 hσ_2 zc_s136 x2_2
          have t6 : σ_2 136 x2_2 = σ 136 x2_2 := hFσ_2 _ _ (zc_out_ar zc_s136 rfl)
          refine zr_icmp_eq (pc := 25) hV 64 dX2_isUnlike_25 (by decide) (by omega) (by omega) (fun c7 => ?_) (fun c7 => ?_)
          · show V 64 [some (ZR 134), some (ZI butFor), some (ZI x2_2), none] [] 284 σ_2
            refine zr_iinc (pc := 64) hV [some (ZR 134), some (ZI butFor), some (ZI (x2_2 + 1)), none] (x2_2 + 1) dX2_isUnlike_64 rfl rfl (by decide) rfl rfl ?_
            refine zr_goto (pc := 67) hV 2 dX2_isUnlike_67 (by decide) ?_
            exact ih2 (x2_2 + 1) σ_2 (by omega) hσ_2 hFσ_2 hi2_0 (zn_uI_s (zn_G_r σ_2).2 hi2_1 (by by_cases c : x2_2 = butFor; exact Or.inl c; exact Or.inr (fun s _ _ => zn_uv_same (by omega) (by rw [← hFσ_2 137 x2_2 (zc_out_ar zc_s137 rfl), ← hFσ_2 136 x2_2 (zc_out_ar zc_s136 rfl)]; omega)))) (by omega) (by omega)
          · show V 28 [some (ZR 134), some (ZI butFor), some (ZI x2_2), none] [] 284 σ_2
            refine zr_aload_n (pc := 28) hV dX2_isUnlike_28 rfl rfl ?_
            refine zr_getR (pc := 29) hV 3 137 dX2_isUnlike_29 fX2_18 rfl rfl (zc_k134 zc_s134) (zc_pos zc_s134 rfl) (zc_g134_3 hσ_2 zc_s134) (by decide) ?_
            refine zr_iload_n (pc := 32) hV dX2_isUnlike_32 rfl rfl ?_
            refine zr_iald (pc := 33) hV dX2_isUnlike_33 (zc_k137 zc_s137) (zc_pos zc_s137 rfl) rfl (by omega) ?_
            have t8 := zc_ga137 hσ_2 zc_s137 x2_2
            have t9 : σ_2 137 x2_2 = σ 137 x2_2 := hFσ_2 _ _ (zc_out_ar zc_s137 rfl)
            refine zr_iconst (pc := 34) hV (-1) dX2_isUnlike_34 rfl ?_
            refine zr_icmp_ne (pc := 35) hV 46 dX2_isUnlike_35 (by decide) (by omega) ⟨by decide, by decide⟩ (fun c10 => ?_) (fun c10 => ?_)
            · show V 46 [some (ZR 134), some (ZI butFor), some (ZI x2_2), none] [] 284 σ_2
              refine zr_aload_n (pc := 46) hV dX2_isUnlike_46 rfl rfl ?_
              refine zr_getR (pc := 47) hV 3 137 dX2_isUnlike_47 fX2_18 rfl rfl (zc_k134 zc_s134) (zc_pos zc_s134 rfl) (zc_g134_3 hσ_2 zc_s134) (by decide) ?_
              refine zr_iload_n (pc := 50) hV dX2_isUnlike_50 rfl rfl ?_
              refine zr_iald (pc := 51) hV dX2_isUnlike_51 (zc_k137 zc_s137) (zc_pos zc_s137 rfl) rfl (by omega) ?_
              have t11 := zc_ga137 hσ_2 zc_s137 x2_2
              have t12 : σ_2 137 x2_2 = σ 137 x2_2 := hFσ_2 _ _ (zc_out_ar zc_s137 rfl)
              show V 52 [some (ZR 134), some (ZI butFor), some (ZI x2_2), none] [ZI (σ_2 137 x2_2)] 284 σ_2
              refine zr_istore_n (pc := 52) hV [some (ZR 134), some (ZI butFor), some (ZI x2_2), some (ZI (σ_2 137 x2_2))] dX2_isUnlike_52 rfl (by decide) rfl rfl ?_
              refine zr_iload_n (pc := 53) hV dX2_isUnlike_53 rfl rfl ?_
              refine zr_aload_n (pc := 54) hV dX2_isUnlike_54 rfl rfl ?_
              refine zr_iload_n (pc := 55) hV dX2_isUnlike_55 rfl rfl ?_
              refine zr_callVi (pc := 56) hV [ZI x2_2] (st := [ZI (σ_2 137 x2_2)]) (c_X2_inSlot_2 (σ := σ_2) hσ_2 x2_2 (by omega) (zn_H_G q1 hi2_0) (zn_Bh_c (fun i => hFσ_2 136 i (zc_out_ar zc_s136 rfl)) q2)) dX2_isUnlike_56 mX2_47 (zc_k134 zc_s134) (zc_pos zc_s134 rfl) (by decide) (Nat.le_of_ble_eq_true rfl) (Nat.le_refl _) (fun r56 σ56 hr56 pσ56 => ?_)
              obtain ⟨hσ56, hfσ56, pσ56, wσ56⟩ := pσ56
              have hFσ56 := zc_Fc hfσ56 rfl hFσ_2
              have tw : ∀ s, zn_st s → zn_cp σ56 s → zn_cv σ s x2_2 = r56 := fun s _ hc => by have z := wσ56.2.2 s hc; rw [zn_cv_c (fun i => hFσ_2 136 i (zc_out_ar zc_s136 rfl))] at z; exact z.symm
              have G56 := zn_G_t q1 hi2_0 wσ56.1
              have X56 := wσ56.1.2
              have on : ∀ s, zn_st s → zn_cp σ56 s → zn_fv σ s x2_2 = σ_2 137 x2_2 := fun s _ hc => by have f : zn_fv σ s x2_2 = σ 137 x2_2 := if_pos (by rw [← hFσ_2 137 x2_2 (zc_out_ar zc_s137 rfl)]; omega); rw [f]; exact (hFσ_2 137 x2_2 (zc_out_ar zc_s137 rfl)).symm
              refine zr_icmp_eq (pc := 59) hV 64 dX2_isUnlike_59 (by decide) (by omega) (by omega) (fun c13 => ?_) (fun c13 => ?_)
              · show V 64 [some (ZR 134), some (ZI butFor), some (ZI x2_2), some (ZI (σ_2 137 x2_2))] [] 284 σ56
                refine zr_iinc (pc := 64) hV [some (ZR 134), some (ZI butFor), some (ZI (x2_2 + 1)), some (ZI (σ_2 137 x2_2))] (x2_2 + 1) dX2_isUnlike_64 rfl rfl (by decide) rfl rfl ?_
                refine zr_goto (pc := 67) hV 2 dX2_isUnlike_67 (by decide) ?_
                refine zr_sub (pc := 2) hV [some (ZR 134), some (ZI butFor), some (ZI (x2_2 + 1)), none] (⟨rfl, rfl, rfl, trivial⟩) ?_
                exact ih2 (x2_2 + 1) σ56 (by omega) hσ56 hFσ56 G56 (zn_uI_s X56 hi2_1 (Or.inr (fun s hs hc => by rw [on s hs hc, tw s hs hc]; omega))) (by omega) (by omega)
              · show V 62 [some (ZR 134), some (ZI butFor), some (ZI x2_2), some (ZI (σ_2 137 x2_2))] [] 284 σ56
                refine zr_iconst (pc := 62) hV 1 dX2_isUnlike_62 rfl ?_
                exact zr_zret (pc := 63) hV dX2_isUnlike_63 rfl rfl (by omega) ⟨_, rfl, ⟨by decide, by decide⟩, hσ56, hFσ56, (by omega), (show zn_G σ σ56 ∧ zn_ul σ σ56 butFor (1 : Int) from ⟨G56, zn_ul_1 (m := x2_2) ⟨by omega, by omega⟩ (by omega) (fun s hs hc => by rw [on s hs hc, tw s hs hc]; omega)⟩)⟩
            · show V 38 [some (ZR 134), some (ZI butFor), some (ZI x2_2), none] [] 284 σ_2
              refine zr_aload_n (pc := 38) hV dX2_isUnlike_38 rfl rfl ?_
              refine zr_iload_n (pc := 39) hV dX2_isUnlike_39 rfl rfl ?_
              refine zr_callVi (pc := 40) hV [ZI x2_2] (st := []) (c_X2_aheadIn_2 (σ := σ_2) hσ_2 x2_2 (by omega) (zn_H_G q1 hi2_0)) dX2_isUnlike_40 mX2_41 (zc_k134 zc_s134) (zc_pos zc_s134 rfl) (by decide) (Nat.le_of_ble_eq_true rfl) (Nat.le_refl _) (fun r40 σ40 hr40 pσ40 => ?_)
              obtain ⟨hσ40, hfσ40, pσ40, wσ40⟩ := pσ40
              have hFσ40 := zc_Fc hfσ40 rfl hFσ_2
              refine zr_goto (pc := 43) hV 52 dX2_isUnlike_43 (by decide) ?_
              show V 52 [some (ZR 134), some (ZI butFor), some (ZI x2_2), none] [ZI r40] 284 σ40
              refine zr_istore_n (pc := 52) hV [some (ZR 134), some (ZI butFor), some (ZI x2_2), some (ZI r40)] dX2_isUnlike_52 rfl (by decide) rfl rfl ?_
              refine zr_iload_n (pc := 53) hV dX2_isUnlike_53 rfl rfl ?_
              refine zr_aload_n (pc := 54) hV dX2_isUnlike_54 rfl rfl ?_
              refine zr_iload_n (pc := 55) hV dX2_isUnlike_55 rfl rfl ?_
              refine zr_callVi (pc := 56) hV [ZI x2_2] (st := [ZI r40]) (c_X2_inSlot_2 (σ := σ40) hσ40 x2_2 (by omega) (zn_H_G q1 (zn_G_t q1 hi2_0 wσ40.1)) (zn_Bh_c (fun i => hFσ40 136 i (zc_out_ar zc_s136 rfl)) q2)) dX2_isUnlike_56 mX2_47 (zc_k134 zc_s134) (zc_pos zc_s134 rfl) (by decide) (Nat.le_of_ble_eq_true rfl) (Nat.le_refl _) (fun r56 σ56 hr56 pσ56 => ?_)
              obtain ⟨hσ56, hfσ56, pσ56, wσ56⟩ := pσ56
              have hFσ56 := zc_Fc hfσ56 rfl hFσ40
              have tw : ∀ s, zn_st s → zn_cp σ56 s → zn_cv σ s x2_2 = r56 := fun s _ hc => by have z := wσ56.2.2 s hc; rw [zn_cv_c (fun i => hFσ40 136 i (zc_out_ar zc_s136 rfl))] at z; exact z.symm
              have G56 := zn_G_t q1 hi2_0 (zn_G_t (zn_H_G q1 hi2_0) wσ40.1 wσ56.1)
              have X56 := (zn_G_t (zn_H_G q1 hi2_0) wσ40.1 wσ56.1).2
              have on : ∀ s, zn_st s → zn_cp σ56 s → zn_fv σ s x2_2 = r40 := fun s _ hc => by have z := wσ40.2; have y := zn_cp_X wσ56.1.2 hc x2_2 (by omega) (by omega) (by omega); have f : zn_fv σ s x2_2 = s x2_2 := if_neg (fun q => q (by rw [← hFσ_2 137 x2_2 (zc_out_ar zc_s137 rfl)]; omega)); rw [f, y]; omega
              refine zr_icmp_eq (pc := 59) hV 64 dX2_isUnlike_59 (by decide) (by omega) (by omega) (fun c14 => ?_) (fun c14 => ?_)
              · show V 64 [some (ZR 134), some (ZI butFor), some (ZI x2_2), some (ZI r40)] [] 284 σ56
                refine zr_iinc (pc := 64) hV [some (ZR 134), some (ZI butFor), some (ZI (x2_2 + 1)), some (ZI r40)] (x2_2 + 1) dX2_isUnlike_64 rfl rfl (by decide) rfl rfl ?_
                refine zr_goto (pc := 67) hV 2 dX2_isUnlike_67 (by decide) ?_
                refine zr_sub (pc := 2) hV [some (ZR 134), some (ZI butFor), some (ZI (x2_2 + 1)), none] (⟨rfl, rfl, rfl, trivial⟩) ?_
                exact ih2 (x2_2 + 1) σ56 (by omega) hσ56 hFσ56 G56 (zn_uI_s X56 hi2_1 (Or.inr (fun s hs hc => by rw [on s hs hc, tw s hs hc]; omega))) (by omega) (by omega)
              · show V 62 [some (ZR 134), some (ZI butFor), some (ZI x2_2), some (ZI r40)] [] 284 σ56
                refine zr_iconst (pc := 62) hV 1 dX2_isUnlike_62 rfl ?_
                exact zr_zret (pc := 63) hV dX2_isUnlike_63 rfl rfl (by omega) ⟨_, rfl, ⟨by decide, by decide⟩, hσ56, hFσ56, (by omega), (show zn_G σ σ56 ∧ zn_ul σ σ56 butFor (1 : Int) from ⟨G56, zn_ul_1 (m := x2_2) ⟨by omega, by omega⟩ (by omega) (fun s hs hc => by rw [on s hs hc, tw s hs hc]; omega)⟩)⟩
  exact L2 (9 - (0 : Int) + 1 : Int).toNat 0 σ (by omega) hσ hFσ (zn_G_r σ) (fun s _ _ y y0 y1 _ => absurd y1 (by omega)) (by omega) (by omega)
