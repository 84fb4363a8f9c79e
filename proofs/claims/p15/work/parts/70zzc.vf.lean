set_option maxHeartbeats 800000 in
theorem c_X2_isSeenBehind_2 {σ : zq_S} (hσ : zc_T σ) (order : Int) (korder : zc_kd order = 4) (slot : Int) (q0 : 0 ≤ slot ∧ slot ≤ 8) (q1 : zq_hid (zw_oo σ order)) (q2 : zq_hid (zn_W slot σ)) : zq_C zc_w yX2_isSeenBehind cX2_isSeenBehind 8 (some .boolean) 4 88 284 284 [ZR 134, ZR order, ZI slot] σ (zq_pi (fun r τ => zc_T τ ∧ zc_Fr [(134, 5), (135, -1), (136, -1), (137, -1), (138, -1)] σ τ ∧ ((0 ≤ r ∧ r ≤ 1)) ∧ zq_hid (zn_seen (zw_ra σ order) 0 (σ order 4) (σ order 5) (σ order 6) slot σ τ r))) := by
  refine zq_C_of (by decide) (Nat.le_refl _) (Nat.le_of_ble_eq_true rfl) [some (ZR 134), some (ZR order), some (ZI slot), none, none, none, none, none] rfl (fun V hV => ?_)
  have poorder := zc_pos korder rfl
  have hFσ := zc_Fr_rf [(134, 5), (135, -1), (136, -1), (137, -1), (138, -1)] σ
  have vv := zn_v_b slot
  show V 0 [some (ZR 134), some (ZR order), some (ZI slot), none, none, none, none, none] [] 284 σ
  refine zr_iconst (pc := 0) hV 1 dX2_isSeenBehind_0 rfl ?_
  refine zr_istore_n (pc := 1) hV [some (ZR 134), some (ZR order), some (ZI slot), some (ZI 1), none, none, none, none] dX2_isSeenBehind_1 rfl (by decide) rfl rfl ?_
  refine zr_iconst (pc := 2) hV 1 dX2_isSeenBehind_2 rfl ?_
  refine zr_istore (pc := 3) hV [some (ZR 134), some (ZR order), some (ZI slot), some (ZI 1), some (ZI 1), none, none, none] dX2_isSeenBehind_3 (by decide) rfl rfl ?_
  refine zr_iconst (pc := 5) hV 0 dX2_isSeenBehind_5 rfl ?_
  refine zr_istore (pc := 6) hV [some (ZR 134), some (ZR order), some (ZI slot), some (ZI 1), some (ZI 1), some (ZI 0), none, none] dX2_isSeenBehind_6 (by decide) rfl rfl ?_
  refine zr_iconst (pc := 8) hV 0 dX2_isSeenBehind_8 rfl ?_
  refine zr_istore (pc := 9) hV [some (ZR 134), some (ZR order), some (ZI slot), some (ZI 1), some (ZI 1), some (ZI 0), some (ZI 0), none] dX2_isSeenBehind_9 (by decide) rfl rfl ?_
  have L11 : ∀ (fuel : Nat) (x3_11 : Int) (x4_11 : Int) (x5_11 : Int) (x6_11 : Int) (σ_11 : zq_S), (0 ≤ x3_11 ∧ x3_11 ≤ 1) → (0 ≤ x4_11 ∧ x4_11 ≤ 1) → ((-1) ≤ x5_11 ∧ x5_11 ≤ 3) → (0 ≤ x6_11 ∧ x6_11 ≤ 4) → (zc_T σ_11) → (zc_Fr [(134, 5), (135, -1), (136, -1), (137, -1), (138, -1)] σ σ_11) → (zq_hid (zn_W slot σ_11)) → (zq_hid (zn_K σ_11 = zn_K σ)) → (zq_hid (∀ s, zn_st s → zn_R σ s → zn_R σ_11 s)) → (zq_hid (zn_sI (zw_ra σ order) 0 (σ order 4) (σ order 5) (σ order 6) slot σ_11 x6_11 x3_11 x4_11 x5_11)) → (zq_hid (0 < x6_11 → zn_Fh σ_11)) → (zq_hid (0 < x6_11 → zn_fs slot σ_11)) → (x6_11 ≤ zn_v slot) → 4 - x6_11 < (fuel : Int) → V 11 [some (ZR 134), some (ZR order), some (ZI slot), some (ZI x3_11), some (ZI x4_11), some (ZI x5_11), some (ZI x6_11), none] [] 284 σ_11 := by
    intro fuel
    induction fuel with
    | zero =>
      intro x3_11 x4_11 x5_11 x6_11 σ_11 hx3_11 hx4_11 hx5_11 hx6_11 hσ_11 hFσ_11 hi11_0 hi11_1 hi11_2 hi11_3 hi11_4 hi11_5 hi11_6 hm11
      exfalso; omega
    | succ fuel ih =>
      intro x3_11 x4_11 x5_11 x6_11 σ_11 hx3_11 hx4_11 hx5_11 hx6_11 hσ_11 hFσ_11 hi11_0 hi11_1 hi11_2 hi11_3 hi11_4 hi11_5 hi11_6 hm11
      have ih11 := ih
      show V 11 [some (ZR 134), some (ZR order), some (ZI slot), some (ZI x3_11), some (ZI x4_11), some (ZI x5_11), some (ZI x6_11), none] [] 284 σ_11
      refine zr_iload (pc := 11) hV dX2_isSeenBehind_11 rfl ?_
      refine zr_iload_n (pc := 13) hV dX2_isSeenBehind_13 rfl rfl ?_
      refine zr_callSp (pc := 14) hV [ZI slot] (st := [ZI x6_11]) (c_X2_valuesOf_2 (σ := σ_11) slot (by omega)) dX2_isSeenBehind_14 mX2_37 (by decide) (Nat.le_of_ble_eq_true rfl) (Nat.le_refl _) (fun r14 hr14 pr14 => ?_)
      refine zr_icmp_ge (pc := 17) hV 123 dX2_isSeenBehind_17 (by decide) (by omega) (by omega) (fun c1 => ?_) (fun c1 => ?_)
      · show V 123 [some (ZR 134), some (ZR order), some (ZI slot), some (ZI x3_11), some (ZI x4_11), some (ZI x5_11), some (ZI x6_11), none] [] 284 σ_11
        refine zr_iload_n (pc := 123) hV dX2_isSeenBehind_123 rfl rfl ?_
        refine zr_if_ne (pc := 124) hV 136 dX2_isSeenBehind_124 (by decide) (by omega) (fun c2 => ?_) (fun c2 => ?_)
        · show V 136 [some (ZR 134), some (ZR order), some (ZI slot), some (ZI x3_11), some (ZI x4_11), some (ZI x5_11), some (ZI x6_11), none] [] 284 σ_11
          refine zr_iconst (pc := 136) hV 0 dX2_isSeenBehind_136 rfl ?_
          show V 137 [some (ZR 134), some (ZR order), some (ZI slot), some (ZI x3_11), some (ZI x4_11), some (ZI x5_11), some (ZI x6_11), none] [ZI 0] 284 σ_11
          exact zr_zret (pc := 137) hV dX2_isSeenBehind_137 rfl rfl (by omega) ⟨_, rfl, ⟨by decide, by decide⟩, hσ_11, hFσ_11, (by omega), (show zn_seen (zw_ra σ order) 0 (σ order 4) (σ order 5) (σ order 6) slot σ σ_11 (0 : Int) from ⟨⟨hi11_0, hi11_5 (by omega)⟩, hi11_1, hi11_2, zn_sI_e (by have h := hi11_3; unfold zq_hid at h; rw [show x6_11 = zn_v slot by omega] at h; exact h) (by omega)⟩)⟩
        · show V 127 [some (ZR 134), some (ZR order), some (ZI slot), some (ZI x3_11), some (ZI x4_11), some (ZI x5_11), some (ZI x6_11), none] [] 284 σ_11
          refine zr_iload (pc := 127) hV dX2_isSeenBehind_127 rfl ?_
          refine zr_if_ne (pc := 129) hV 136 dX2_isSeenBehind_129 (by decide) (by omega) (fun c3 => ?_) (fun c3 => ?_)
          · show V 136 [some (ZR 134), some (ZR order), some (ZI slot), some (ZI x3_11), some (ZI x4_11), some (ZI x5_11), some (ZI x6_11), none] [] 284 σ_11
            refine zr_iconst (pc := 136) hV 0 dX2_isSeenBehind_136 rfl ?_
            show V 137 [some (ZR 134), some (ZR order), some (ZI slot), some (ZI x3_11), some (ZI x4_11), some (ZI x5_11), some (ZI x6_11), none] [ZI 0] 284 σ_11
            exact zr_zret (pc := 137) hV dX2_isSeenBehind_137 rfl rfl (by omega) ⟨_, rfl, ⟨by decide, by decide⟩, hσ_11, hFσ_11, (by omega), (show zn_seen (zw_ra σ order) 0 (σ order 4) (σ order 5) (σ order 6) slot σ σ_11 (0 : Int) from ⟨⟨hi11_0, hi11_5 (by omega)⟩, hi11_1, hi11_2, zn_sI_e (by have h := hi11_3; unfold zq_hid at h; rw [show x6_11 = zn_v slot by omega] at h; exact h) (by omega)⟩)⟩
          · show V 132 [some (ZR 134), some (ZR order), some (ZI slot), some (ZI x3_11), some (ZI x4_11), some (ZI x5_11), some (ZI x6_11), none] [] 284 σ_11
            refine zr_iconst (pc := 132) hV 1 dX2_isSeenBehind_132 rfl ?_
            refine zr_goto (pc := 133) hV 137 dX2_isSeenBehind_133 (by decide) ?_
            show V 137 [some (ZR 134), some (ZR order), some (ZI slot), some (ZI x3_11), some (ZI x4_11), some (ZI x5_11), some (ZI x6_11), none] [ZI 1] 284 σ_11
            exact zr_zret (pc := 137) hV dX2_isSeenBehind_137 rfl rfl (by omega) ⟨_, rfl, ⟨by decide, by decide⟩, hσ_11, hFσ_11, (by omega), (show zn_seen (zw_ra σ order) 0 (σ order 4) (σ order 5) (σ order 6) slot σ σ_11 (1 : Int) from ⟨⟨hi11_0, hi11_5 (by omega)⟩, hi11_1, hi11_2, zn_sI_e (by have h := hi11_3; unfold zq_hid at h; rw [show x6_11 = zn_v slot by omega] at h; exact h) (by omega)⟩)⟩
      · show V 20 [some (ZR 134), some (ZR order), some (ZI slot), some (ZI x3_11), some (ZI x4_11), some (ZI x5_11), some (ZI x6_11), none] [] 284 σ_11
        refine zr_aload_n (pc := 20) hV dX2_isSeenBehind_20 rfl rfl ?_
        refine zr_getR (pc := 21) hV 1 135 dX2_isSeenBehind_21 fX2_11 rfl rfl (zc_k134 zc_s134) (zc_pos zc_s134 rfl) (zc_g134_1 hσ_11 zc_s134) (by decide) ?_
        refine zr_iload_n (pc := 24) hV dX2_isSeenBehind_24 rfl rfl ?_
        refine zr_iload (pc := 25) hV dX2_isSeenBehind_25 rfl ?_
        refine zr_iast (pc := 27) hV dX2_isSeenBehind_27 (zc_k135 zc_s135) (zc_pos zc_s135 rfl) rfl (by omega) (fun σ27 eσ27 => ?_)
        have hσ27 : zc_T σ27 := zc_ua135 eσ27 hσ_11 zc_s135 (by omega)
        have hFσ27 := zc_Fa eσ27 zc_s135 rfl hFσ_11
        have ra27 : zw_ra σ27 order = zw_ra σ order := zw_ra_fr (fun k i k2 k5 => by obtain rfl | rfl | rfl | rfl : k = 2 ∨ k = 3 ∨ k = 4 ∨ k = 5 := (by omega); exact hFσ27 _ _ (zc_out_ar (zc_p4_2 korder) rfl); exact hFσ27 _ _ (zc_out_ar (zc_p4_3 korder) rfl); exact hFσ27 _ _ (zc_out_ar (zc_p4_4 korder) rfl); exact hFσ27 _ _ (zc_out_ar (zc_p4_5 korder) rfl))
        have e427 : σ27 order 4 = σ order 4 := hFσ27 order 4 (zc_out_at korder rfl)
        have e527 : σ27 order 5 = σ order 5 := hFσ27 order 5 (zc_out_at korder rfl)
        have e627 : σ27 order 6 = σ order 6 := hFσ27 order 6 (zc_out_at korder rfl)
        have oo27 : zq_hid (zw_oo σ27 order) := zw_oo_fr e427 e527 e627 (fun k i k2 k5 => by obtain rfl | rfl | rfl | rfl : k = 2 ∨ k = 3 ∨ k = 4 ∨ k = 5 := (by omega); exact hFσ27 _ _ (zc_out_ar (zc_p4_2 korder) rfl); exact hFσ27 _ _ (zc_out_ar (zc_p4_3 korder) rfl); exact hFσ27 _ _ (zc_out_ar (zc_p4_4 korder) rfl); exact hFσ27 _ _ (zc_out_ar (zc_p4_5 korder) rfl)) q1
        have z27 := zn_set hi11_0 ⟨by omega, by omega⟩ ⟨by omega, by omega⟩ eσ27
        have v27 : σ27 135 slot = x6_11 := by rw [eσ27, zq_up_same]
        refine zr_aload_n (pc := 28) hV dX2_isSeenBehind_28 rfl rfl ?_
        refine zr_getR (pc := 29) hV 2 136 dX2_isSeenBehind_29 fX2_15 rfl rfl (zc_k134 zc_s134) (zc_pos zc_s134 rfl) (zc_g134_2 hσ27 zc_s134) (by decide) ?_
        refine zr_iconst (pc := 32) hV (-1) dX2_isSeenBehind_32 rfl ?_
        refine zr_callSv (pc := 33) hV [ZR 136, ZI (-1)] (st := []) (c_fill (σ := σ27) hσ27 136 (-1) zc_s136 rfl rfl ⟨by decide, by decide⟩ (fun _ => ⟨by omega, by omega⟩)) dX2_isSeenBehind_33 mX2_28 (by decide) (Nat.le_of_ble_eq_true rfl) (Nat.le_refl _) (fun σ33 pσ33 => ?_)
        obtain ⟨hσ33, hfσ33, pσ33⟩ := pσ33
        have hFσ33 := zc_Fc hfσ33 rfl hFσ27
        have H33 : zn_H σ27 := ⟨slot, z27.1, z27.2.1⟩
        have af := zn_af0 pσ33.1 pσ33.2 H33
        have oo33 := zn_oo_c pσ33.2 korder oo27
        refine zr_aload_n (pc := 36) hV dX2_isSeenBehind_36 rfl rfl ?_
        refine zr_aload_n (pc := 37) hV dX2_isSeenBehind_37 rfl rfl ?_
        refine zr_callVv (pc := 38) hV [ZR 134] (st := []) (c_X3_doOn_N2 (σ := σ33) hσ33 order korder oo33 (zn_H_G H33 af.1) af.2) dX2_isSeenBehind_38 mX2_50 (zc_k4 korder) (zc_pos korder rfl) (by decide) (Nat.le_of_ble_eq_true rfl) (Nat.le_refl _) (fun σ38 pσ38 => ?_)
        obtain ⟨hσ38, hfσ38, pσ38, wσ38⟩ := pσ38
        have hFσ38 := zc_Fc hfσ38 rfl hFσ33
        have t4 := zc_g4_4 hσ33 korder
        have t5 : σ33 order 4 = σ27 order 4 := hfσ33 _ _ (zc_out_at korder rfl)
        have t6 : σ27 order 4 = σ_11 order 4 := by rw [eσ27]; exact zq_up_ne (zc_dk korder zc_s135 rfl)
        have t7 : σ_11 order 4 = σ order 4 := hFσ_11 _ _ (zc_out_at korder rfl)
        have t8 := zc_g4_5 hσ33 korder
        have t9 : σ33 order 5 = σ27 order 5 := hfσ33 _ _ (zc_out_at korder rfl)
        have t10 : σ27 order 5 = σ_11 order 5 := by rw [eσ27]; exact zq_up_ne (zc_dk korder zc_s135 rfl)
        have t11 : σ_11 order 5 = σ order 5 := hFσ_11 _ _ (zc_out_at korder rfl)
        have t12 := zc_g4_6 hσ33 korder
        have t13 : σ33 order 6 = σ27 order 6 := hfσ33 _ _ (zc_out_at korder rfl)
        have t14 : σ27 order 6 = σ_11 order 6 := by rw [eσ27]; exact zq_up_ne (zc_dk korder zc_s135 rfl)
        have t15 : σ_11 order 6 = σ order 6 := hFσ_11 _ _ (zc_out_at korder rfl)
        have q38 := zn_af hσ27 korder pσ33.1 pσ33.2 oo27 H33 wσ38
        rw [ra27, e427, e527, e627] at q38
        have H38 := zn_H_G H33 q38.1
        refine zr_aload_n (pc := 41) hV dX2_isSeenBehind_41 rfl rfl ?_
        refine zr_iload_n (pc := 42) hV dX2_isSeenBehind_42 rfl rfl ?_
        refine zr_callVi (pc := 43) hV [ZI slot] (st := []) (c_X2_inSlot_2 (σ := σ38) hσ38 slot (by omega) H38 q38.2.1) dX2_isSeenBehind_43 mX2_47 (zc_k134 zc_s134) (zc_pos zc_s134 rfl) (by decide) (Nat.le_of_ble_eq_true rfl) (Nat.le_refl _) (fun r43 σ43 hr43 pσ43 => ?_)
        obtain ⟨hσ43, hfσ43, pσ43, wσ43⟩ := pσ43
        have hFσ43 := zc_Fc hfσ43 rfl hFσ38
        have tv := zn_tv ⟨by omega, by omega⟩ ⟨by omega, by omega⟩ z27.1 z27.2.1 v27 q38 wσ43
        have A43 : ∀ s, zn_A σ43 s → zn_A σ_11 s := fun s a => (z27.2.2.2.2 s).mp (tv.1.2.2.2.2.2 s a)
        have m136 : ∀ i, σ43 136 i = σ38 136 i := fun i => hfσ43 136 i (zc_out_ar zc_s136 rfl)
        have m137 : ∀ i, σ43 137 i = σ_11 137 i := fun i => by rw [hfσ43 137 i (zc_out_ar zc_s137 rfl), hfσ38 137 i (zc_out_ar zc_s137 rfl), pσ33.2 137 i (by decide), eσ27, zq_up_ne (by omega)]
        have K43 : zn_K σ43 = zn_K σ := (tv.1.2.2.2.1.trans z27.2.2.1).trans hi11_1
        have R43 : ∀ s, zn_st s → zn_R σ s → zn_R σ43 s := fun s hs r => tv.1.2.2.2.2.1 s hs ((z27.2.2.2.1 s).mpr (hi11_2 s hs r))
        refine zr_istore (pc := 46) hV [some (ZR 134), some (ZR order), some (ZI slot), some (ZI x3_11), some (ZI x4_11), some (ZI x5_11), some (ZI x6_11), some (ZI r43)] dX2_isSeenBehind_46 (by decide) rfl rfl ?_
        refine zr_iload (pc := 48) hV dX2_isSeenBehind_48 rfl ?_
        have J85 : ∀ (x5_85 : Int) (σ_85 : zq_S), ((-1) ≤ x5_85 ∧ x5_85 ≤ 3) → (zc_T σ_85) → (zc_Fr [(134, 5), (135, -1), (136, -1), (137, -1), (138, -1)] σ σ_85) → (zq_hid (zn_W slot σ_85)) → (zq_hid (zn_K σ_85 = zn_K σ)) → (zq_hid (∀ s, zn_st s → zn_R σ s → zn_R σ_85 s)) → (zq_hid (zn_sJ (zw_ra σ order) 0 (σ order 4) (σ order 5) (σ order 6) slot σ_85 x6_11 x3_11 x4_11 x5_85 r43)) → (zq_hid (zn_Fh σ_85)) → (zq_hid (zn_fs slot σ_85)) → V 85 [some (ZR 134), some (ZR order), some (ZI slot), some (ZI x3_11), some (ZI x4_11), some (ZI x5_85), some (ZI x6_11), some (ZI r43)] [] 284 σ_85 := by
          intro x5_85 σ_85 hx5_85 hσ_85 hFσ_85 hi85_0 hi85_1 hi85_2 hi85_3 hi85_4 hi85_5
          show V 85 [some (ZR 134), some (ZR order), some (ZI slot), some (ZI x3_11), some (ZI x4_11), some (ZI x5_85), some (ZI x6_11), some (ZI r43)] [] 284 σ_85
          refine zr_iload_n (pc := 85) hV dX2_isSeenBehind_85 rfl rfl ?_
          refine zr_iload (pc := 86) hV dX2_isSeenBehind_86 rfl ?_
          refine zr_iload (pc := 88) hV dX2_isSeenBehind_88 rfl ?_
          refine zr_icmp_ne (pc := 90) hV 97 dX2_isSeenBehind_90 (by decide) (by omega) (by omega) (fun c16 => ?_) (fun c16 => ?_)
          · show V 97 [some (ZR 134), some (ZR order), some (ZI slot), some (ZI x3_11), some (ZI x4_11), some (ZI x5_85), some (ZI x6_11), some (ZI r43)] [ZI x3_11] 284 σ_85
            refine zr_iconst (pc := 97) hV 0 dX2_isSeenBehind_97 rfl ?_
            show V 98 [some (ZR 134), some (ZR order), some (ZI slot), some (ZI x3_11), some (ZI x4_11), some (ZI x5_85), some (ZI x6_11), some (ZI r43)] [ZI 0, ZI x3_11] 284 σ_85
            refine zr_iand (pc := 98) hV dX2_isSeenBehind_98 ?_
            have t17 := zq_and_mask x3_11 0 0 1 (by decide) (by decide) (by decide)
            refine zr_istore_n (pc := 99) hV [some (ZR 134), some (ZR order), some (ZI slot), some (ZI (zq_and x3_11 0)), some (ZI x4_11), some (ZI x5_85), some (ZI x6_11), some (ZI r43)] dX2_isSeenBehind_99 rfl (by decide) rfl rfl ?_
            refine zr_iload (pc := 100) hV dX2_isSeenBehind_100 rfl ?_
            refine zr_iload (pc := 102) hV dX2_isSeenBehind_102 rfl ?_
            refine zr_iload (pc := 104) hV dX2_isSeenBehind_104 rfl ?_
            refine zr_icmp_ne (pc := 106) hV 113 dX2_isSeenBehind_106 (by decide) (by omega) (by omega) (fun c18 => ?_) (fun c18 => ?_)
            · show V 113 [some (ZR 134), some (ZR order), some (ZI slot), some (ZI (zq_and x3_11 0)), some (ZI x4_11), some (ZI x5_85), some (ZI x6_11), some (ZI r43)] [ZI x4_11] 284 σ_85
              refine zr_iconst (pc := 113) hV 0 dX2_isSeenBehind_113 rfl ?_
              show V 114 [some (ZR 134), some (ZR order), some (ZI slot), some (ZI (zq_and x3_11 0)), some (ZI x4_11), some (ZI x5_85), some (ZI x6_11), some (ZI r43)] [ZI 0, ZI x4_11] 284 σ_85
              refine zr_iand (pc := 114) hV dX2_isSeenBehind_114 ?_
              have t19 := zq_and_mask x4_11 0 0 1 (by decide) (by decide) (by decide)
              refine zr_istore (pc := 115) hV [some (ZR 134), some (ZR order), some (ZI slot), some (ZI (zq_and x3_11 0)), some (ZI (zq_and x4_11 0)), some (ZI x5_85), some (ZI x6_11), some (ZI r43)] dX2_isSeenBehind_115 (by decide) rfl rfl ?_
              refine zr_iinc (pc := 117) hV [some (ZR 134), some (ZR order), some (ZI slot), some (ZI (zq_and x3_11 0)), some (ZI (zq_and x4_11 0)), some (ZI x5_85), some (ZI (x6_11 + 1)), some (ZI r43)] (x6_11 + 1) dX2_isSeenBehind_117 rfl rfl (by decide) rfl rfl ?_
              refine zr_goto (pc := 120) hV 11 dX2_isSeenBehind_120 (by decide) ?_
              refine zr_sub (pc := 11) hV [some (ZR 134), some (ZR order), some (ZI slot), some (ZI (zq_and x3_11 0)), some (ZI (zq_and x4_11 0)), some (ZI x5_85), some (ZI (x6_11 + 1)), none] (⟨rfl, rfl, rfl, rfl, rfl, rfl, rfl, trivial⟩) ?_
              exact ih11 (zq_and x3_11 0) (zq_and x4_11 0) x5_85 (x6_11 + 1) σ_85 (by omega) (by omega) (by omega) (by omega) hσ_85 hFσ_85 hi85_0 hi85_1 hi85_2 (zn_sJ_s (by omega) hi85_3 (by have k01 := zn_and01 (a := x3_11) (by omega); have s01 := zn_and01 (a := x4_11) (by omega); omega) (by have k01 := zn_and01 (a := x3_11) (by omega); have s01 := zn_and01 (a := x4_11) (by omega); omega)) (fun _ => hi85_4) (fun _ => hi85_5) (by omega) (by omega)
            · show V 109 [some (ZR 134), some (ZR order), some (ZI slot), some (ZI (zq_and x3_11 0)), some (ZI x4_11), some (ZI x5_85), some (ZI x6_11), some (ZI r43)] [ZI x4_11] 284 σ_85
              refine zr_iconst (pc := 109) hV 1 dX2_isSeenBehind_109 rfl ?_
              refine zr_goto (pc := 110) hV 114 dX2_isSeenBehind_110 (by decide) ?_
              show V 114 [some (ZR 134), some (ZR order), some (ZI slot), some (ZI (zq_and x3_11 0)), some (ZI x4_11), some (ZI x5_85), some (ZI x6_11), some (ZI r43)] [ZI 1, ZI x4_11] 284 σ_85
              refine zr_iand (pc := 114) hV dX2_isSeenBehind_114 ?_
              have t20 := zq_and_mask x4_11 1 1 2 (by decide) (by decide) (by decide)
              refine zr_istore (pc := 115) hV [some (ZR 134), some (ZR order), some (ZI slot), some (ZI (zq_and x3_11 0)), some (ZI (zq_and x4_11 1)), some (ZI x5_85), some (ZI x6_11), some (ZI r43)] dX2_isSeenBehind_115 (by decide) rfl rfl ?_
              refine zr_iinc (pc := 117) hV [some (ZR 134), some (ZR order), some (ZI slot), some (ZI (zq_and x3_11 0)), some (ZI (zq_and x4_11 1)), some (ZI x5_85), some (ZI (x6_11 + 1)), some (ZI r43)] (x6_11 + 1) dX2_isSeenBehind_117 rfl rfl (by decide) rfl rfl ?_
              refine zr_goto (pc := 120) hV 11 dX2_isSeenBehind_120 (by decide) ?_
              refine zr_sub (pc := 11) hV [some (ZR 134), some (ZR order), some (ZI slot), some (ZI (zq_and x3_11 0)), some (ZI (zq_and x4_11 1)), some (ZI x5_85), some (ZI (x6_11 + 1)), none] (⟨rfl, rfl, rfl, rfl, rfl, rfl, rfl, trivial⟩) ?_
              exact ih11 (zq_and x3_11 0) (zq_and x4_11 1) x5_85 (x6_11 + 1) σ_85 (by omega) (by omega) (by omega) (by omega) hσ_85 hFσ_85 hi85_0 hi85_1 hi85_2 (zn_sJ_s (by omega) hi85_3 (by have k01 := zn_and01 (a := x3_11) (by omega); have s01 := zn_and01 (a := x4_11) (by omega); omega) (by have k01 := zn_and01 (a := x3_11) (by omega); have s01 := zn_and01 (a := x4_11) (by omega); omega)) (fun _ => hi85_4) (fun _ => hi85_5) (by omega) (by omega)
          · show V 93 [some (ZR 134), some (ZR order), some (ZI slot), some (ZI x3_11), some (ZI x4_11), some (ZI x5_85), some (ZI x6_11), some (ZI r43)] [ZI x3_11] 284 σ_85
            refine zr_iconst (pc := 93) hV 1 dX2_isSeenBehind_93 rfl ?_
            refine zr_goto (pc := 94) hV 98 dX2_isSeenBehind_94 (by decide) ?_
            show V 98 [some (ZR 134), some (ZR order), some (ZI slot), some (ZI x3_11), some (ZI x4_11), some (ZI x5_85), some (ZI x6_11), some (ZI r43)] [ZI 1, ZI x3_11] 284 σ_85
            refine zr_iand (pc := 98) hV dX2_isSeenBehind_98 ?_
            have t21 := zq_and_mask x3_11 1 1 2 (by decide) (by decide) (by decide)
            refine zr_istore_n (pc := 99) hV [some (ZR 134), some (ZR order), some (ZI slot), some (ZI (zq_and x3_11 1)), some (ZI x4_11), some (ZI x5_85), some (ZI x6_11), some (ZI r43)] dX2_isSeenBehind_99 rfl (by decide) rfl rfl ?_
            refine zr_iload (pc := 100) hV dX2_isSeenBehind_100 rfl ?_
            refine zr_iload (pc := 102) hV dX2_isSeenBehind_102 rfl ?_
            refine zr_iload (pc := 104) hV dX2_isSeenBehind_104 rfl ?_
            refine zr_icmp_ne (pc := 106) hV 113 dX2_isSeenBehind_106 (by decide) (by omega) (by omega) (fun c22 => ?_) (fun c22 => ?_)
            · show V 113 [some (ZR 134), some (ZR order), some (ZI slot), some (ZI (zq_and x3_11 1)), some (ZI x4_11), some (ZI x5_85), some (ZI x6_11), some (ZI r43)] [ZI x4_11] 284 σ_85
              refine zr_iconst (pc := 113) hV 0 dX2_isSeenBehind_113 rfl ?_
              show V 114 [some (ZR 134), some (ZR order), some (ZI slot), some (ZI (zq_and x3_11 1)), some (ZI x4_11), some (ZI x5_85), some (ZI x6_11), some (ZI r43)] [ZI 0, ZI x4_11] 284 σ_85
              refine zr_iand (pc := 114) hV dX2_isSeenBehind_114 ?_
              have t23 := zq_and_mask x4_11 0 0 1 (by decide) (by decide) (by decide)
              refine zr_istore (pc := 115) hV [some (ZR 134), some (ZR order), some (ZI slot), some (ZI (zq_and x3_11 1)), some (ZI (zq_and x4_11 0)), some (ZI x5_85), some (ZI x6_11), some (ZI r43)] dX2_isSeenBehind_115 (by decide) rfl rfl ?_
              refine zr_iinc (pc := 117) hV [some (ZR 134), some (ZR order), some (ZI slot), some (ZI (zq_and x3_11 1)), some (ZI (zq_and x4_11 0)), some (ZI x5_85), some (ZI (x6_11 + 1)), some (ZI r43)] (x6_11 + 1) dX2_isSeenBehind_117 rfl rfl (by decide) rfl rfl ?_
              refine zr_goto (pc := 120) hV 11 dX2_isSeenBehind_120 (by decide) ?_
              refine zr_sub (pc := 11) hV [some (ZR 134), some (ZR order), some (ZI slot), some (ZI (zq_and x3_11 1)), some (ZI (zq_and x4_11 0)), some (ZI x5_85), some (ZI (x6_11 + 1)), none] (⟨rfl, rfl, rfl, rfl, rfl, rfl, rfl, trivial⟩) ?_
              exact ih11 (zq_and x3_11 1) (zq_and x4_11 0) x5_85 (x6_11 + 1) σ_85 (by omega) (by omega) (by omega) (by omega) hσ_85 hFσ_85 hi85_0 hi85_1 hi85_2 (zn_sJ_s (by omega) hi85_3 (by have k01 := zn_and01 (a := x3_11) (by omega); have s01 := zn_and01 (a := x4_11) (by omega); omega) (by have k01 := zn_and01 (a := x3_11) (by omega); have s01 := zn_and01 (a := x4_11) (by omega); omega)) (fun _ => hi85_4) (fun _ => hi85_5) (by omega) (by omega)
            · show V 109 [some (ZR 134), some (ZR order), some (ZI slot), some (ZI (zq_and x3_11 1)), some (ZI x4_11), some (ZI x5_85), some (ZI x6_11), some (ZI r43)] [ZI x4_11] 284 σ_85
              refine zr_iconst (pc := 109) hV 1 dX2_isSeenBehind_109 rfl ?_
              refine zr_goto (pc := 110) hV 114 dX2_isSeenBehind_110 (by decide) ?_
              show V 114 [some (ZR 134), some (ZR order), some (ZI slot), some (ZI (zq_and x3_11 1)), some (ZI x4_11), some (ZI x5_85), some (ZI x6_11), some (ZI r43)] [ZI 1, ZI x4_11] 284 σ_85
              refine zr_iand (pc := 114) hV dX2_isSeenBehind_114 ?_
              have t24 := zq_and_mask x4_11 1 1 2 (by decide) (by decide) (by decide)
              refine zr_istore (pc := 115) hV [some (ZR 134), some (ZR order), some (ZI slot), some (ZI (zq_and x3_11 1)), some (ZI (zq_and x4_11 1)), some (ZI x5_85), some (ZI x6_11), some (ZI r43)] dX2_isSeenBehind_115 (by decide) rfl rfl ?_
              refine zr_iinc (pc := 117) hV [some (ZR 134), some (ZR order), some (ZI slot), some (ZI (zq_and x3_11 1)), some (ZI (zq_and x4_11 1)), some (ZI x5_85), some (ZI (x6_11 + 1)), some (ZI r43)] (x6_11 + 1) dX2_isSeenBehind_117 rfl rfl (by decide) rfl rfl ?_
              refine zr_goto (pc := 120) hV 11 dX2_isSeenBehind_120 (by decide) ?_
              refine zr_sub (pc := 11) hV [some (ZR 134), some (ZR order), some (ZI slot), some (ZI (zq_and x3_11 1)), some (ZI (zq_and x4_11 1)), some (ZI x5_85), some (ZI (x6_11 + 1)), none] (⟨rfl, rfl, rfl, rfl, rfl, rfl, rfl, trivial⟩) ?_
              exact ih11 (zq_and x3_11 1) (zq_and x4_11 1) x5_85 (x6_11 + 1) σ_85 (by omega) (by omega) (by omega) (by omega) hσ_85 hFσ_85 hi85_0 hi85_1 hi85_2 (zn_sJ_s (by omega) hi85_3 (by have k01 := zn_and01 (a := x3_11) (by omega); have s01 := zn_and01 (a := x4_11) (by omega); omega) (by have k01 := zn_and01 (a := x3_11) (by omega); have s01 := zn_and01 (a := x4_11) (by omega); omega)) (fun _ => hi85_4) (fun _ => hi85_5) (by omega) (by omega)
        refine zr_if_ne (pc := 50) hV 75 dX2_isSeenBehind_50 (by decide) (by omega) (fun c25 => ?_) (fun c25 => ?_)
        · show V 75 [some (ZR 134), some (ZR order), some (ZI slot), some (ZI x3_11), some (ZI x4_11), some (ZI x5_11), some (ZI x6_11), some (ZI r43)] [] 284 σ43
          refine zr_aload_n (pc := 75) hV dX2_isSeenBehind_75 rfl rfl ?_
          refine zr_iload_n (pc := 76) hV dX2_isSeenBehind_76 rfl rfl ?_
          refine zr_callVi (pc := 77) hV [ZI slot] (st := []) (c_X2_isUnlike_2 (σ := σ43) hσ43 slot (by omega) ⟨slot, tv.1.1, tv.1.2.1⟩ (zn_Bh_c m136 q38.2.1) (by have h := hi11_4 (by omega); exact fun y y0 y8 => by rw [m137]; exact h y y0 y8)) dX2_isSeenBehind_77 mX2_86 (zc_k134 zc_s134) (zc_pos zc_s134 rfl) (by decide) (Nat.le_of_ble_eq_true rfl) (Nat.le_refl _) (fun r77 σ77 hr77 pσ77 => ?_)
          obtain ⟨hσ77, hfσ77, pσ77, wσ77⟩ := pσ77
          have hFσ77 := zc_Fc hfσ77 rfl hFσ43
          have H43 : zn_H σ43 := ⟨slot, tv.1.1, tv.1.2.1⟩
          have tu := zn_tu (by omega) (by omega) tv.1.1 tv.1.2.1 tv.1.2.2.1 ⟨by omega, by omega⟩ tv.2 hi11_3 A43 m136 m137 wσ77
          refine zr_if_eq (pc := 80) hV 85 dX2_isSeenBehind_80 (by decide) (by omega) (fun c26 => ?_) (fun c26 => ?_)
          · exact J85 x5_11 σ77 (by omega) hσ77 hFσ77 (by have w77 := wσ77.1.1 _ tv.1.1 tv.1.2.1; exact w77) ((zn_K_G tv.1.1 wσ77.1).trans K43) (fun s hs r => zn_R_G tv.1.1 tv.1.2.1 wσ77.1 hs (R43 s hs r)) (tu.2.2 (by omega) (fun i => (hfσ77 137 i (zc_out_ar zc_s137 rfl)).trans (m137 i))) (fun y y0 y8 => by rw [(fun i => (hfσ77 137 i (zc_out_ar zc_s137 rfl)).trans (m137 i)) y]; exact hi11_4 (by omega) y y0 y8) (zn_fs_X wσ77.1.2 tv.1.2.1)
          · show V 83 [some (ZR 134), some (ZR order), some (ZI slot), some (ZI x3_11), some (ZI x4_11), some (ZI x5_11), some (ZI x6_11), some (ZI r43)] [] 284 σ77
            refine zr_iconst (pc := 83) hV 1 dX2_isSeenBehind_83 rfl ?_
            exact zr_zret (pc := 84) hV dX2_isSeenBehind_84 rfl rfl (by omega) ⟨_, rfl, ⟨by decide, by decide⟩, hσ77, hFσ77, (by omega), (show zn_seen (zw_ra σ order) 0 (σ order 4) (σ order 5) (σ order 6) slot σ σ77 (1 : Int) from ⟨⟨wσ77.1.1 _ tv.1.1 tv.1.2.1, zn_fs_X wσ77.1.2 tv.1.2.1⟩, (zn_K_G tv.1.1 wσ77.1).trans K43, fun s hs r => zn_R_G tv.1.1 tv.1.2.1 wσ77.1 hs (R43 s hs r), fun s hs a => ⟨fun _ => tu.1 (by omega) s hs a, fun _ => rfl⟩⟩)⟩
        · show V 53 [some (ZR 134), some (ZR order), some (ZI slot), some (ZI x3_11), some (ZI x4_11), some (ZI x5_11), some (ZI x6_11), some (ZI r43)] [] 284 σ43
          refine zr_iload (pc := 53) hV dX2_isSeenBehind_53 rfl ?_
          refine zr_istore (pc := 55) hV [some (ZR 134), some (ZR order), some (ZI slot), some (ZI x3_11), some (ZI x4_11), some (ZI r43), some (ZI x6_11), some (ZI r43)] dX2_isSeenBehind_55 (by decide) rfl rfl ?_
          refine zr_aload_n (pc := 57) hV dX2_isSeenBehind_57 rfl rfl ?_
          refine zr_getR (pc := 58) hV 2 136 dX2_isSeenBehind_58 fX2_15 rfl rfl (zc_k134 zc_s134) (zc_pos zc_s134 rfl) (zc_g134_2 hσ43 zc_s134) (by decide) ?_
          refine zr_iconst (pc := 61) hV 0 dX2_isSeenBehind_61 rfl ?_
          refine zr_aload_n (pc := 62) hV dX2_isSeenBehind_62 rfl rfl ?_
          refine zr_getR (pc := 63) hV 3 137 dX2_isSeenBehind_63 fX2_18 rfl rfl (zc_k134 zc_s134) (zc_pos zc_s134 rfl) (zc_g134_3 hσ43 zc_s134) (by decide) ?_
          refine zr_iconst (pc := 66) hV 0 dX2_isSeenBehind_66 rfl ?_
          refine zr_bipush (pc := 67) hV 9 dX2_isSeenBehind_67 (by decide) ?_
          refine zr_copy (pc := 69) hV dX2_isSeenBehind_69 lX2_80 lcp_nat lcp_stat lcp_ini (zc_k136 zc_s136) (zc_k137 zc_s137) (zc_pos zc_s136 rfl) (zc_pos zc_s137 rfl) rfl rfl (by omega) (by omega) (by omega) rfl rfl (fun σ69 eσ69 => ?_)
          have hσ69 : zc_T σ69 := zc_Tcell eσ69 hσ43 zc_s137 (fun i => by split; exact zc_ga136 hσ43 zc_s136 _; exact zc_ga137 hσ43 zc_s137 _)
          have hFσ69 := zc_Fcell eσ69 zc_s137 rfl hFσ43
          refine zr_goto (pc := 72) hV 85 dX2_isSeenBehind_72 (by decide) ?_
          exact J85 r43 σ69 (by omega) hσ69 hFσ69 (by have k5 : σ69 134 5 = σ43 134 5 := (by rw [eσ69, zc_cell_ne (by omega)]); have k0 : σ69 134 0 = σ43 134 0 := (by rw [eσ69, zc_cell_ne (by omega)]); have a135 : σ69 135 = σ43 135 := funext (fun i => by rw [eσ69, zc_cell_ne (by omega)]); have a138 : σ69 138 = σ43 138 := funext (fun i => by rw [eσ69, zc_cell_ne (by omega)]); unfold zq_hid zn_W; rw [k0, k5, a135, a138]; exact tv.1.1) (by have k5 : σ69 134 5 = σ43 134 5 := (by rw [eσ69, zc_cell_ne (by omega)]); have k0 : σ69 134 0 = σ43 134 0 := (by rw [eσ69, zc_cell_ne (by omega)]); have a135 : σ69 135 = σ43 135 := funext (fun i => by rw [eσ69, zc_cell_ne (by omega)]); have a138 : σ69 138 = σ43 138 := funext (fun i => by rw [eσ69, zc_cell_ne (by omega)]); unfold zq_hid zn_K; rw [k5, a135, a138]; exact K43) (by have k5 : σ69 134 5 = σ43 134 5 := (by rw [eσ69, zc_cell_ne (by omega)]); have k0 : σ69 134 0 = σ43 134 0 := (by rw [eσ69, zc_cell_ne (by omega)]); have a135 : σ69 135 = σ43 135 := funext (fun i => by rw [eσ69, zc_cell_ne (by omega)]); have a138 : σ69 138 = σ43 138 := funext (fun i => by rw [eσ69, zc_cell_ne (by omega)]); intro s hs r; have z := R43 s hs r; unfold zn_R at z ⊢; rw [k5, a135, a138]; exact z) (by have k5 : σ69 134 5 = σ43 134 5 := (by rw [eσ69, zc_cell_ne (by omega)]); have k0 : σ69 134 0 = σ43 134 0 := (by rw [eσ69, zc_cell_ne (by omega)]); have a135 : σ69 135 = σ43 135 := funext (fun i => by rw [eσ69, zc_cell_ne (by omega)]); have a138 : σ69 138 = σ43 138 := funext (fun i => by rw [eσ69, zc_cell_ne (by omega)]); have e0 : x6_11 = 0 := (by omega); have h3 := hi11_3; have t2 := tv.2; rw [e0] at h3 t2 ⊢; exact zn_t0 t2 h3 (fun s a => by have a1 : zn_A σ43 s := (by unfold zn_A at a ⊢; rw [k5, a135, a138] at a; exact a); exact ⟨a1, A43 s a1⟩) (fun y y0 y8 => by rw [eσ69, zq_cell_s, if_pos (by omega), show 0 + (y - 0) = y by omega]; exact m136 y)) (fun y y0 y8 => by have z : σ69 137 y = σ38 136 y := (by rw [eσ69, zq_cell_s, if_pos (by omega), show 0 + (y - 0) = y by omega]; exact m136 y); rw [z]; exact q38.2.1 y y0 y8) (fun f0 f9 => by rw [eσ69, zc_cell_ne (by omega)]; exact tv.1.2.1 f0 f9)
  exact L11 (4 - (0 : Int) + 1 : Int).toNat 1 1 0 0 σ (by omega) (by omega) (by omega) (by omega) hσ hFσ q2 rfl (fun s hs r => r) zn_sI_0 (fun h => absurd h (by decide)) (fun h => absurd h (by decide)) (by omega) (by omega)
set_option maxHeartbeats 800000 in
theorem c_X2_readsSlot_2 {σ : zq_S} (hσ : zc_T σ) (order : Int) (korder : zc_kd order = 4) (slot : Int) (q0 : 0 ≤ slot ∧ slot ≤ 8) (q1 : zq_hid (zw_oo σ order)) (q2 : σ 134 0 = 3) : zq_C zc_w yX2_readsSlot cX2_readsSlot 4 (some .boolean) 5 115 284 284 [ZR 134, ZR order, ZI slot] σ (zq_pi (fun r τ => zc_T τ ∧ zc_Fr [(134, 5), (135, -1), (136, -1), (137, -1), (138, -1)] σ τ ∧ ((0 ≤ r ∧ r ≤ 1)) ∧ zq_hid (r = 1 ↔ zn_P (zw_ra σ order) 0 (σ order 4) (σ order 5) (σ order 6) slot))) := by
  refine zq_C_of (by decide) (Nat.le_refl _) (Nat.le_of_ble_eq_true rfl) [some (ZR 134), some (ZR order), some (ZI slot), none] rfl (fun V hV => ?_)
  have poorder := zc_pos korder rfl
  have hFσ := zc_Fr_rf [(134, 5), (135, -1), (136, -1), (137, -1), (138, -1)] σ
  show V 0 [some (ZR 134), some (ZR order), some (ZI slot), none] [] 284 σ
  refine zr_aload_n (pc := 0) hV dX2_readsSlot_0 rfl rfl ?_
  refine zr_callVv (pc := 1) hV [] (st := []) (c_X2_startOver_2 (σ := σ) hσ) dX2_readsSlot_1 mX2_69 (zc_k134 zc_s134) (zc_pos zc_s134 rfl) (by decide) (Nat.le_of_ble_eq_true rfl) (Nat.le_refl _) (fun σ1 pσ1 => ?_)
  obtain ⟨hσ1, hfσ1, pσ1, wσ1⟩ := pσ1
  have hFσ1 := zc_Fc hfσ1 rfl hFσ
  have t1 := zc_g134_5 hσ1 zc_s134
  have W0 := zn_W_0 ((hfσ1 134 0 (zc_out_at zc_s134 rfl)).trans q2) pσ1 wσ1 slot
  refine zr_iconst (pc := 4) hV 0 dX2_readsSlot_4 rfl ?_
  refine zr_istore_n (pc := 5) hV [some (ZR 134), some (ZR order), some (ZI slot), some (ZI 0)] dX2_readsSlot_5 rfl (by decide) rfl rfl ?_
  have L6 : ∀ (fuel : Nat) (x3_6 : Int) (σ_6 : zq_S), (0 ≤ x3_6 ∧ x3_6 ≤ 1000000) → (zc_T σ_6) → (zc_Fr [(134, 5), (135, -1), (136, -1), (137, -1), (138, -1)] σ σ_6) → (zq_hid (zn_W slot σ_6)) → (x3_6 ≤ zn_K σ_6) → (zq_hid (∀ s, zn_st s → zn_R σ_6 s ∨ ¬ zn_rs (zw_ra σ order) 0 (σ order 4) (σ order 5) (σ order 6) slot s)) → 1000000 - x3_6 < (fuel : Int) → V 6 [some (ZR 134), some (ZR order), some (ZI slot), some (ZI x3_6)] [] 284 σ_6 := by
    intro fuel
    induction fuel with
    | zero =>
      intro x3_6 σ_6 hx3_6 hσ_6 hFσ_6 hi6_0 hi6_1 hi6_2 hm6
      exfalso; omega
    | succ fuel ih =>
      intro x3_6 σ_6 hx3_6 hσ_6 hFσ_6 hi6_0 hi6_1 hi6_2 hm6
      have ih6 := ih
      show V 6 [some (ZR 134), some (ZR order), some (ZI slot), some (ZI x3_6)] [] 284 σ_6
      refine zr_iload_n (pc := 6) hV dX2_readsSlot_6 rfl rfl ?_
      refine zr_ldc (pc := 7) (v := 1000000) hV 1000000 dX2_readsSlot_7 kX2_72 (by decide) ?_
      refine zr_icmp_ge (pc := 9) hV 38 dX2_readsSlot_9 (by decide) (by omega) ⟨by decide, by decide⟩ (fun c2 => ?_) (fun c2 => ?_)
      · show V 38 [some (ZR 134), some (ZR order), some (ZI slot), some (ZI x3_6)] [] 284 σ_6
        refine zr_iconst (pc := 38) hV 0 dX2_readsSlot_38 rfl ?_
        exact zr_zret (pc := 39) hV dX2_readsSlot_39 rfl rfl (by omega) ⟨_, rfl, ⟨by decide, by decide⟩, hσ_6, hFσ_6, (by omega), (show (0 : Int) = 1 ↔ zn_P (zw_ra σ order) 0 (σ order 4) (σ order 5) (σ order 6) slot from (by exfalso; have z := zn_K_le hi6_0; omega))⟩
      · show V 12 [some (ZR 134), some (ZR order), some (ZI slot), some (ZI x3_6)] [] 284 σ_6
        have ra6 : zw_ra σ_6 order = zw_ra σ order := zw_ra_fr (fun k i k2 k5 => by obtain rfl | rfl | rfl | rfl : k = 2 ∨ k = 3 ∨ k = 4 ∨ k = 5 := (by omega); exact hFσ_6 _ _ (zc_out_ar (zc_p4_2 korder) rfl); exact hFσ_6 _ _ (zc_out_ar (zc_p4_3 korder) rfl); exact hFσ_6 _ _ (zc_out_ar (zc_p4_4 korder) rfl); exact hFσ_6 _ _ (zc_out_ar (zc_p4_5 korder) rfl))
        have e46 : σ_6 order 4 = σ order 4 := hFσ_6 order 4 (zc_out_at korder rfl)
        have e56 : σ_6 order 5 = σ order 5 := hFσ_6 order 5 (zc_out_at korder rfl)
        have e66 : σ_6 order 6 = σ order 6 := hFσ_6 order 6 (zc_out_at korder rfl)
        have oo6 : zq_hid (zw_oo σ_6 order) := zw_oo_fr e46 e56 e66 (fun k i k2 k5 => by obtain rfl | rfl | rfl | rfl : k = 2 ∨ k = 3 ∨ k = 4 ∨ k = 5 := (by omega); exact hFσ_6 _ _ (zc_out_ar (zc_p4_2 korder) rfl); exact hFσ_6 _ _ (zc_out_ar (zc_p4_3 korder) rfl); exact hFσ_6 _ _ (zc_out_ar (zc_p4_4 korder) rfl); exact hFσ_6 _ _ (zc_out_ar (zc_p4_5 korder) rfl)) q1
        refine zr_aload_n (pc := 12) hV dX2_readsSlot_12 rfl rfl ?_
        refine zr_aload_n (pc := 13) hV dX2_readsSlot_13 rfl rfl ?_
        refine zr_iload_n (pc := 14) hV dX2_readsSlot_14 rfl rfl ?_
        refine zr_callVi (pc := 15) hV [ZR order, ZI slot] (st := []) (c_X2_isSeenBehind_2 (σ := σ_6) hσ_6 order korder slot (by omega) oo6 hi6_0) dX2_readsSlot_15 mX2_73 (zc_k134 zc_s134) (zc_pos zc_s134 rfl) (by decide) (Nat.le_of_ble_eq_true rfl) (Nat.le_refl _) (fun r15 σ15 hr15 pσ15 => ?_)
        obtain ⟨hσ15, hfσ15, pσ15, wσ15⟩ := pσ15
        have hFσ15 := zc_Fc hfσ15 rfl hFσ_6
        have t3 := zc_g4_4 hσ_6 korder
        have t4 : σ_6 order 4 = σ order 4 := hFσ_6 _ _ (zc_out_at korder rfl)
        have t5 := zc_g4_5 hσ_6 korder
        have t6 : σ_6 order 5 = σ order 5 := hFσ_6 _ _ (zc_out_at korder rfl)
        have t7 := zc_g4_6 hσ_6 korder
        have t8 : σ_6 order 6 = σ order 6 := hFσ_6 _ _ (zc_out_at korder rfl)
        refine zr_if_eq (pc := 18) hV 23 dX2_readsSlot_18 (by decide) (by omega) (fun c9 => ?_) (fun c9 => ?_)
        · show V 23 [some (ZR 134), some (ZR order), some (ZI slot), some (ZI x3_6)] [] 284 σ15
          refine zr_aload_n (pc := 23) hV dX2_readsSlot_23 rfl rfl ?_
          refine zr_callVi (pc := 24) hV [] (st := []) (c_X2_goToNext_2 (σ := σ15) hσ15) dX2_readsSlot_24 mX2_76 (zc_k134 zc_s134) (zc_pos zc_s134 rfl) (by decide) (Nat.le_of_ble_eq_true rfl) (Nat.le_refl _) (fun r24 σ24 hr24 pσ24 => ?_)
          obtain ⟨hσ24, hfσ24, pσ24, wσ24⟩ := pσ24
          have hFσ24 := zc_Fc hfσ24 rfl hFσ15
          refine zr_if_ne (pc := 27) hV 32 dX2_readsSlot_27 (by decide) (by omega) (fun c10 => ?_) (fun c10 => ?_)
          · show V 32 [some (ZR 134), some (ZR order), some (ZI slot), some (ZI x3_6)] [] 284 σ24
            refine zr_iinc (pc := 32) hV [some (ZR 134), some (ZR order), some (ZI slot), some (ZI (x3_6 + 1))] (x3_6 + 1) dX2_readsSlot_32 rfl rfl (by decide) rfl rfl ?_
            refine zr_goto (pc := 35) hV 6 dX2_readsSlot_35 (by decide) ?_
            exact ih6 (x3_6 + 1) σ24 (by omega) hσ24 hFσ24 (wσ24 _ wσ15.1.1).1 (by have z := ((wσ24 _ wσ15.1.1).2.2 (by omega)).1; have y := wσ15.2.1; omega) (fun s hs => (hi6_2 s hs).elim (fun z => ((((wσ24 _ wσ15.1.1).2.2 (by omega)).2 s hs (wσ15.2.2.1 s hs z)).elim (fun a => Or.inr (fun q => absurd ((wσ15.2.2.2 s hs a).mpr (by have q := q; rw [← ra6, ← e46, ← e56, ← e66] at q; exact q)) (by omega))) Or.inl)) Or.inr) (by omega)
          · show V 30 [some (ZR 134), some (ZR order), some (ZI slot), some (ZI x3_6)] [] 284 σ24
            refine zr_iconst (pc := 30) hV 0 dX2_readsSlot_30 rfl ?_
            exact zr_zret (pc := 31) hV dX2_readsSlot_31 rfl rfl (by omega) ⟨_, rfl, ⟨by decide, by decide⟩, hσ24, hFσ24, (by omega), (show (0 : Int) = 1 ↔ zn_P (zw_ra σ order) 0 (σ order 4) (σ order 5) (σ order 6) slot from ⟨fun h => absurd h (by decide), fun ⟨s, hs, q⟩ => by exfalso; rcases hi6_2 s hs with z | z; (have a := (wσ24 _ wσ15.1.1).2.1 (by omega) s hs (wσ15.2.2.1 s hs z); have y := (wσ15.2.2.2 s hs a).mpr (by rw [ra6, e46, e56, e66]; exact q); omega); exact z q⟩)⟩
        · show V 21 [some (ZR 134), some (ZR order), some (ZI slot), some (ZI x3_6)] [] 284 σ15
          refine zr_iconst (pc := 21) hV 1 dX2_readsSlot_21 rfl ?_
          exact zr_zret (pc := 22) hV dX2_readsSlot_22 rfl rfl (by omega) ⟨_, rfl, ⟨by decide, by decide⟩, hσ15, hFσ15, (by omega), (show (1 : Int) = 1 ↔ zn_P (zw_ra σ order) 0 (σ order 4) (σ order 5) (σ order 6) slot from ⟨fun _ => by obtain ⟨s, hs, a⟩ := zn_A_some wσ15.1.1 wσ15.1.2; have z := (wσ15.2.2.2 s hs a).mp (by omega); rw [ra6, e46, e56, e66] at z; exact ⟨s, hs, z⟩, fun _ => rfl⟩)⟩
  exact L6 (1000000 - (0 : Int) + 1 : Int).toNat 0 σ1 (by omega) hσ1 hFσ1 W0.1 (by have z := W0.2.1; omega) (fun s _ => Or.inl (W0.2.2 s)) (by omega)
set_option maxHeartbeats 800000 in
theorem c_X2_whatReads_2 {σ : zq_S} (hσ : zc_T σ) (order : Int) (korder : zc_kd order = 4) (q0 : zq_hid (zw_oo σ order)) (q1 : σ 134 0 = 3) (q2 : zq_hid (σ order 15 = -1 ∨ σ order 15 = zn_bs (zn_P (zw_ra σ order) 0 (σ order 4) (σ order 5) (σ order 6)) 9)) (q3 : zq_hid (∀ x, 0 ≤ x → x ≤ 8 → zn_P (zw_ra σ order) 0 (σ order 4) (σ order 5) (σ order 6) x → zq_and (σ order 12) (zn_bit x) ≠ 0)) : zq_C zc_w yX2_whatReads cX2_whatReads 5 (some .int) 6 138 284 284 [ZR 134, ZR order] σ (zq_pi (fun r τ => zc_T τ ∧ zc_Fr [(4, 15), (134, 5), (135, -1), (136, -1), (137, -1), (138, -1)] σ τ ∧ (True) ∧ zq_hid (r = zn_bs (zn_P (zw_ra σ order) 0 (σ order 4) (σ order 5) (σ order 6)) 9 ∧ τ order 15 = r ∧ ∀ b, zc_kd b = 4 → b ≠ order → τ b 15 = σ b 15))) := by
  refine zq_C_of (by decide) (Nat.le_refl _) (Nat.le_of_ble_eq_true rfl) [some (ZR 134), some (ZR order), none, none, none] rfl (fun V hV => ?_)
  have poorder := zc_pos korder rfl
  have hFσ := zc_Fr_rf [(4, 15), (134, 5), (135, -1), (136, -1), (137, -1), (138, -1)] σ
  show V 0 [some (ZR 134), some (ZR order), none, none, none] [] 284 σ
  refine zr_aload_n (pc := 0) hV dX2_whatReads_0 rfl rfl ?_
  refine zr_getI (pc := 1) hV 15 dX2_whatReads_1 fX2_56 rfl rfl (zc_k4 korder) (zc_pos korder rfl) ?_
  have t1 := zc_g4_15 hσ korder
  refine zr_iconst (pc := 4) hV (-1) dX2_whatReads_4 rfl ?_
  refine zr_icmp_ne (pc := 5) hV 66 dX2_whatReads_5 (by decide) (by omega) ⟨by decide, by decide⟩ (fun c2 => ?_) (fun c2 => ?_)
  · show V 66 [some (ZR 134), some (ZR order), none, none, none] [] 284 σ
    refine zr_aload_n (pc := 66) hV dX2_whatReads_66 rfl rfl ?_
    refine zr_getI (pc := 67) hV 15 dX2_whatReads_67 fX2_56 rfl rfl (zc_k4 korder) (zc_pos korder rfl) ?_
    have t3 := zc_g4_15 hσ korder
    have t4 := zc_g4_15 hσ korder
    exact zr_iret (pc := 70) hV dX2_whatReads_70 rfl rfl ⟨_, rfl, (by omega), hσ, hFσ, trivial, (show (σ order 15) = zn_bs (zn_P (zw_ra σ order) 0 (σ order 4) (σ order 5) (σ order 6)) 9 ∧ σ order 15 = (σ order 15) ∧ ∀ b, zc_kd b = 4 → b ≠ order → σ b 15 = σ b 15 from ⟨q2.resolve_left (by omega), rfl, fun _ _ _ => rfl⟩)⟩
  · show V 8 [some (ZR 134), some (ZR order), none, none, none] [] 284 σ
    refine zr_iconst (pc := 8) hV 0 dX2_whatReads_8 rfl ?_
    refine zr_istore_n (pc := 9) hV [some (ZR 134), some (ZR order), some (ZI 0), none, none] dX2_whatReads_9 rfl (by decide) rfl rfl ?_
    refine zr_iconst (pc := 10) hV 0 dX2_whatReads_10 rfl ?_
    refine zr_istore_n (pc := 11) hV [some (ZR 134), some (ZR order), some (ZI 0), some (ZI 0), none] dX2_whatReads_11 rfl (by decide) rfl rfl ?_
    have L12 : ∀ (fuel : Nat) (x2_12 : Int) (x3_12 : Int) (σ_12 : zq_S), (0 ≤ x2_12 ∧ x2_12 ≤ 511) → (0 ≤ x3_12 ∧ x3_12 ≤ 9) → (zc_T σ_12) → (zc_Fr [(4, 15), (134, 5), (135, -1), (136, -1), (137, -1), (138, -1)] σ σ_12) → (zq_hid (zn_bsI (zn_P (zw_ra σ order) 0 (σ order 4) (σ order 5) (σ order 6)) x2_12 x3_12)) → (zq_hid (∀ b, zc_kd b = 4 → σ_12 b 15 = σ b 15)) → (x3_12 ≤ 9) → 9 - x3_12 < (fuel : Int) → V 12 [some (ZR 134), some (ZR order), some (ZI x2_12), some (ZI x3_12), none] [] 284 σ_12 := by
      intro fuel
      induction fuel with
      | zero =>
        intro x2_12 x3_12 σ_12 hx2_12 hx3_12 hσ_12 hFσ_12 hi12_0 hi12_1 hi12_2 hm12
        exfalso; omega
      | succ fuel ih =>
        intro x2_12 x3_12 σ_12 hx2_12 hx3_12 hσ_12 hFσ_12 hi12_0 hi12_1 hi12_2 hm12
        have ih12 := ih
        show V 12 [some (ZR 134), some (ZR order), some (ZI x2_12), some (ZI x3_12), none] [] 284 σ_12
        refine zr_iload_n (pc := 12) hV dX2_whatReads_12 rfl rfl ?_
        refine zr_bipush (pc := 13) hV 9 dX2_whatReads_13 (by decide) ?_
        refine zr_icmp_ge (pc := 15) hV 61 dX2_whatReads_15 (by decide) (by omega) ⟨by decide, by decide⟩ (fun c5 => ?_) (fun c5 => ?_)
        · show V 61 [some (ZR 134), some (ZR order), some (ZI x2_12), some (ZI x3_12), none] [] 284 σ_12
          refine zr_aload_n (pc := 61) hV dX2_whatReads_61 rfl rfl ?_
          refine zr_iload_n (pc := 62) hV dX2_whatReads_62 rfl rfl ?_
          refine zr_putI (pc := 63) hV 15 dX2_whatReads_63 fX2_56 rfl rfl rfl (zc_k4 korder) (zc_pos korder rfl) (fun σ63 eσ63 => ?_)
          have hσ63 : zc_T σ63 := zc_u4_15 eσ63 hσ_12 korder (by omega)
          have hFσ63 := zc_Fw eσ63 korder rfl hFσ_12
          show V 66 [some (ZR 134), some (ZR order), some (ZI x2_12), some (ZI x3_12), none] [] 284 σ63
          refine zr_aload_n (pc := 66) hV dX2_whatReads_66 rfl rfl ?_
          refine zr_getI (pc := 67) hV 15 dX2_whatReads_67 fX2_56 rfl rfl (zc_k4 korder) (zc_pos korder rfl) ?_
          have t6 := zc_g4_15 hσ63 korder
          have t7 : σ63 order 15 = x2_12 := by rw [eσ63]; exact zq_up_same _ _ _ _
          have t8 := zc_g4_15 hσ63 korder
          have t9 : σ63 order 15 = x2_12 := by rw [eσ63]; exact zq_up_same _ _ _ _
          exact zr_iret (pc := 70) hV dX2_whatReads_70 rfl rfl ⟨_, rfl, (by omega), hσ63, hFσ63, trivial, (show (σ63 order 15) = zn_bs (zn_P (zw_ra σ order) 0 (σ order 4) (σ order 5) (σ order 6)) 9 ∧ σ63 order 15 = (σ63 order 15) ∧ ∀ b, zc_kd b = 4 → b ≠ order → σ63 b 15 = σ b 15 from ⟨by rw [eσ63, zq_up_same]; have h := hi12_0; unfold zq_hid zn_bsI at h; rw [show x3_12 = 9 by omega] at h; exact h, rfl, fun b hb hn => by rw [eσ63, zq_up_ne (by omega)]; exact hi12_1 b hb⟩)⟩
        · show V 18 [some (ZR 134), some (ZR order), some (ZI x2_12), some (ZI x3_12), none] [] 284 σ_12
          refine zr_iload_n (pc := 18) hV dX2_whatReads_18 rfl rfl ?_
          refine zr_callSp (pc := 19) hV [ZI x3_12] (st := []) (c_X2_bitOf_2 (σ := σ_12) x3_12 (by omega)) dX2_whatReads_19 mX2_59 (by decide) (Nat.le_of_ble_eq_true rfl) (Nat.le_refl _) (fun r19 hr19 pr19 => ?_)
          refine zr_istore (pc := 22) hV [some (ZR 134), some (ZR order), some (ZI x2_12), some (ZI x3_12), some (ZI r19)] dX2_whatReads_22 (by decide) rfl rfl ?_
          refine zr_aload_n (pc := 24) hV dX2_whatReads_24 rfl rfl ?_
          refine zr_getI (pc := 25) hV 12 dX2_whatReads_25 fX2_62 rfl rfl (zc_k4 korder) (zc_pos korder rfl) ?_
          have t10 := zc_g4_12 hσ_12 korder
          have t11 : σ_12 order 12 = σ order 12 := hFσ_12 _ _ (zc_out_at korder rfl)
          refine zr_iload (pc := 28) hV dX2_whatReads_28 rfl ?_
          refine zr_iand (pc := 30) hV dX2_whatReads_30 ?_
          have t12 := zq_and_nnR (x := σ_12 order 12) (y := r19) (by omega)
          refine zr_if_eq (pc := 31) hV 55 dX2_whatReads_31 (by decide) (by omega) (fun c13 => ?_) (fun c13 => ?_)
          · show V 55 [some (ZR 134), some (ZR order), some (ZI x2_12), some (ZI x3_12), some (ZI r19)] [] 284 σ_12
            refine zr_iinc (pc := 55) hV [some (ZR 134), some (ZR order), some (ZI x2_12), some (ZI (x3_12 + 1)), some (ZI r19)] (x3_12 + 1) dX2_whatReads_55 rfl rfl (by decide) rfl rfl ?_
            refine zr_goto (pc := 58) hV 12 dX2_whatReads_58 (by decide) ?_
            refine zr_sub (pc := 12) hV [some (ZR 134), some (ZR order), some (ZI x2_12), some (ZI (x3_12 + 1)), none] (⟨rfl, rfl, rfl, rfl, trivial⟩) ?_
            exact ih12 x2_12 (x3_12 + 1) σ_12 (by omega) (by omega) hσ_12 hFσ_12 (zn_bsI_n (by omega) pr19.2 hi12_0 (by by_cases c : zq_and x2_12 r19 = 0; (exact Or.inr (fun q => absurd (q3 x3_12 (by omega) (by omega) q) (by rw [← pr19.2, ← hFσ_12 order 12 (zc_out_at korder rfl)]; omega))); exact Or.inl c)) hi12_1 (by omega) (by omega)
          · show V 34 [some (ZR 134), some (ZR order), some (ZI x2_12), some (ZI x3_12), some (ZI r19)] [] 284 σ_12
            refine zr_iload_n (pc := 34) hV dX2_whatReads_34 rfl rfl ?_
            refine zr_iload (pc := 35) hV dX2_whatReads_35 rfl ?_
            refine zr_iand (pc := 37) hV dX2_whatReads_37 ?_
            have t14 := zq_and_nnR (x := x2_12) (y := r19) (by omega)
            refine zr_if_ne (pc := 38) hV 55 dX2_whatReads_38 (by decide) (by omega) (fun c15 => ?_) (fun c15 => ?_)
            · show V 55 [some (ZR 134), some (ZR order), some (ZI x2_12), some (ZI x3_12), some (ZI r19)] [] 284 σ_12
              refine zr_iinc (pc := 55) hV [some (ZR 134), some (ZR order), some (ZI x2_12), some (ZI (x3_12 + 1)), some (ZI r19)] (x3_12 + 1) dX2_whatReads_55 rfl rfl (by decide) rfl rfl ?_
              refine zr_goto (pc := 58) hV 12 dX2_whatReads_58 (by decide) ?_
              refine zr_sub (pc := 12) hV [some (ZR 134), some (ZR order), some (ZI x2_12), some (ZI (x3_12 + 1)), none] (⟨rfl, rfl, rfl, rfl, trivial⟩) ?_
              exact ih12 x2_12 (x3_12 + 1) σ_12 (by omega) (by omega) hσ_12 hFσ_12 (zn_bsI_n (by omega) pr19.2 hi12_0 (by by_cases c : zq_and x2_12 r19 = 0; (exact Or.inr (fun q => absurd (q3 x3_12 (by omega) (by omega) q) (by rw [← pr19.2, ← hFσ_12 order 12 (zc_out_at korder rfl)]; omega))); exact Or.inl c)) hi12_1 (by omega) (by omega)
            · show V 41 [some (ZR 134), some (ZR order), some (ZI x2_12), some (ZI x3_12), some (ZI r19)] [] 284 σ_12
              have ra12 : zw_ra σ_12 order = zw_ra σ order := zw_ra_fr (fun k i k2 k5 => by obtain rfl | rfl | rfl | rfl : k = 2 ∨ k = 3 ∨ k = 4 ∨ k = 5 := (by omega); exact hFσ_12 _ _ (zc_out_ar (zc_p4_2 korder) rfl); exact hFσ_12 _ _ (zc_out_ar (zc_p4_3 korder) rfl); exact hFσ_12 _ _ (zc_out_ar (zc_p4_4 korder) rfl); exact hFσ_12 _ _ (zc_out_ar (zc_p4_5 korder) rfl))
              have e412 : σ_12 order 4 = σ order 4 := hFσ_12 order 4 (zc_out_at korder rfl)
              have e512 : σ_12 order 5 = σ order 5 := hFσ_12 order 5 (zc_out_at korder rfl)
              have e612 : σ_12 order 6 = σ order 6 := hFσ_12 order 6 (zc_out_at korder rfl)
              have oo12 : zq_hid (zw_oo σ_12 order) := zw_oo_fr e412 e512 e612 (fun k i k2 k5 => by obtain rfl | rfl | rfl | rfl : k = 2 ∨ k = 3 ∨ k = 4 ∨ k = 5 := (by omega); exact hFσ_12 _ _ (zc_out_ar (zc_p4_2 korder) rfl); exact hFσ_12 _ _ (zc_out_ar (zc_p4_3 korder) rfl); exact hFσ_12 _ _ (zc_out_ar (zc_p4_4 korder) rfl); exact hFσ_12 _ _ (zc_out_ar (zc_p4_5 korder) rfl)) q0
              refine zr_aload_n (pc := 41) hV dX2_whatReads_41 rfl rfl ?_
              refine zr_aload_n (pc := 42) hV dX2_whatReads_42 rfl rfl ?_
              refine zr_iload_n (pc := 43) hV dX2_whatReads_43 rfl rfl ?_
              have t16 := zc_g134_0 hσ_12 zc_s134
              have t17 : σ_12 134 0 = σ 134 0 := hFσ_12 _ _ (zc_out_at zc_s134 rfl)
              refine zr_callVi (pc := 44) hV [ZR order, ZI x3_12] (st := []) (c_X2_readsSlot_2 (σ := σ_12) hσ_12 order korder x3_12 (by omega) oo12 ((hFσ_12 134 0 (zc_out_at zc_s134 rfl)).trans q1)) dX2_whatReads_44 mX2_65 (zc_k134 zc_s134) (zc_pos zc_s134 rfl) (by decide) (Nat.le_of_ble_eq_true rfl) (Nat.le_refl _) (fun r44 σ44 hr44 pσ44 => ?_)
              obtain ⟨hσ44, hfσ44, pσ44, wσ44⟩ := pσ44
              have hFσ44 := zc_Fc hfσ44 rfl hFσ_12
              have t18 := zc_g4_4 hσ_12 korder
              have t19 : σ_12 order 4 = σ order 4 := hFσ_12 _ _ (zc_out_at korder rfl)
              have t20 := zc_g4_5 hσ_12 korder
              have t21 : σ_12 order 5 = σ order 5 := hFσ_12 _ _ (zc_out_at korder rfl)
              have t22 := zc_g4_6 hσ_12 korder
              have t23 : σ_12 order 6 = σ order 6 := hFσ_12 _ _ (zc_out_at korder rfl)
              refine zr_if_eq (pc := 47) hV 55 dX2_whatReads_47 (by decide) (by omega) (fun c24 => ?_) (fun c24 => ?_)
              · show V 55 [some (ZR 134), some (ZR order), some (ZI x2_12), some (ZI x3_12), some (ZI r19)] [] 284 σ44
                refine zr_iinc (pc := 55) hV [some (ZR 134), some (ZR order), some (ZI x2_12), some (ZI (x3_12 + 1)), some (ZI r19)] (x3_12 + 1) dX2_whatReads_55 rfl rfl (by decide) rfl rfl ?_
                refine zr_goto (pc := 58) hV 12 dX2_whatReads_58 (by decide) ?_
                refine zr_sub (pc := 12) hV [some (ZR 134), some (ZR order), some (ZI x2_12), some (ZI (x3_12 + 1)), none] (⟨rfl, rfl, rfl, rfl, trivial⟩) ?_
                exact ih12 x2_12 (x3_12 + 1) σ44 (by omega) (by omega) hσ44 hFσ44 (zn_bsI_n (by omega) pr19.2 hi12_0 (Or.inr (fun q => by have z := (by have z := wσ44; unfold zq_hid at z; rw [ra12, e412, e512, e612] at z; exact z); have y := z.mpr q; omega))) (fun b kb => (hfσ44 b 15 (zc_out_at kb rfl)).trans (hi12_1 b kb)) (by omega) (by omega)
              · show V 50 [some (ZR 134), some (ZR order), some (ZI x2_12), some (ZI x3_12), some (ZI r19)] [] 284 σ44
                refine zr_iload_n (pc := 50) hV dX2_whatReads_50 rfl rfl ?_
                refine zr_iload (pc := 51) hV dX2_whatReads_51 rfl ?_
                refine zr_ior (pc := 53) hV dX2_whatReads_53 ?_
                have t25 := zq_or_b (x := x2_12) (y := r19) 9 512 (by decide) (by decide) (by omega) (by omega)
                refine zr_istore_n (pc := 54) hV [some (ZR 134), some (ZR order), some (ZI (zq_or x2_12 r19)), some (ZI x3_12), some (ZI r19)] dX2_whatReads_54 rfl (by decide) rfl rfl ?_
                show V 55 [some (ZR 134), some (ZR order), some (ZI (zq_or x2_12 r19)), some (ZI x3_12), some (ZI r19)] [] 284 σ44
                refine zr_iinc (pc := 55) hV [some (ZR 134), some (ZR order), some (ZI (zq_or x2_12 r19)), some (ZI (x3_12 + 1)), some (ZI r19)] (x3_12 + 1) dX2_whatReads_55 rfl rfl (by decide) rfl rfl ?_
                refine zr_goto (pc := 58) hV 12 dX2_whatReads_58 (by decide) ?_
                refine zr_sub (pc := 12) hV [some (ZR 134), some (ZR order), some (ZI (zq_or x2_12 r19)), some (ZI (x3_12 + 1)), none] (⟨rfl, rfl, rfl, rfl, trivial⟩) ?_
                exact ih12 (zq_or x2_12 r19) (x3_12 + 1) σ44 (by omega) (by omega) hσ44 hFσ44 (zn_bsI_y (by omega) pr19.2 hi12_0 (by omega) (by have z := wσ44; unfold zq_hid at z; rw [ra12, e412, e512, e612] at z; exact z.mp (by omega))) (fun b kb => (hfσ44 b 15 (zc_out_at kb rfl)).trans (hi12_1 b kb)) (by omega) (by omega)
    exact L12 (9 - (0 : Int) + 1 : Int).toNat 0 0 σ (by omega) (by omega) hσ hFσ (show (0 : Int) = 0 from rfl) (fun _ _ => rfl) (by omega) (by omega)
set_option maxHeartbeats 800000 in
theorem c_X2_leaveTheSame_2 {σ : zq_S} (hσ : zc_T σ) (a : Int) (ka : zc_kd a = 4) (b : Int) (kb : zc_kd b = 4) (q0 : zq_hid (zw_oo σ a)) (q1 : zq_hid (zw_oo σ b)) (q2 : σ 134 0 = 3) : zq_C zc_w yX2_leaveTheSame cX2_leaveTheSame 4 (some .boolean) 5 109 284 284 [ZR 134, ZR a, ZR b] σ (zq_pi (fun r τ => zc_T τ ∧ zc_Fr [(134, 5), (135, -1), (136, -1), (137, -1), (138, -1)] σ τ ∧ ((0 ≤ r ∧ r ≤ 1)) ∧ zq_hid (r = 1 ↔ zn_Lk (zw_ra σ a) 0 (σ a 4) (σ a 5) (σ a 6) (zw_ra σ b) 0 (σ b 4) (σ b 5) (σ b 6)))) := by
  refine zq_C_of (by decide) (Nat.le_refl _) (Nat.le_of_ble_eq_true rfl) [some (ZR 134), some (ZR a), some (ZR b), none] rfl (fun V hV => ?_)
  have poa := zc_pos ka rfl
  have pob := zc_pos kb rfl
  have hFσ := zc_Fr_rf [(134, 5), (135, -1), (136, -1), (137, -1), (138, -1)] σ
  show V 0 [some (ZR 134), some (ZR a), some (ZR b), none] [] 284 σ
  refine zr_aload_n (pc := 0) hV dX2_leaveTheSame_0 rfl rfl ?_
  refine zr_callVv (pc := 1) hV [] (st := []) (c_X2_startOver_2 (σ := σ) hσ) dX2_leaveTheSame_1 mX2_69 (zc_k134 zc_s134) (zc_pos zc_s134 rfl) (by decide) (Nat.le_of_ble_eq_true rfl) (Nat.le_refl _) (fun σ1 pσ1 => ?_)
  obtain ⟨hσ1, hfσ1, pσ1, wσ1⟩ := pσ1
  have hFσ1 := zc_Fc hfσ1 rfl hFσ
  have t1 := zc_g134_5 hσ1 zc_s134
  have W0 := zn_W_0 ((hfσ1 134 0 (zc_out_at zc_s134 rfl)).trans q2) pσ1 wσ1 (-1)
  refine zr_iconst (pc := 4) hV 0 dX2_leaveTheSame_4 rfl ?_
  refine zr_istore_n (pc := 5) hV [some (ZR 134), some (ZR a), some (ZR b), some (ZI 0)] dX2_leaveTheSame_5 rfl (by decide) rfl rfl ?_
  have L6 : ∀ (fuel : Nat) (x3_6 : Int) (σ_6 : zq_S), (0 ≤ x3_6 ∧ x3_6 ≤ 1000000) → (zc_T σ_6) → (zc_Fr [(134, 5), (135, -1), (136, -1), (137, -1), (138, -1)] σ σ_6) → (zq_hid (zn_W (-1) σ_6)) → (x3_6 ≤ zn_K σ_6) → (zq_hid (∀ s, zn_st s → zn_R σ_6 s ∨ (∀ x, 0 ≤ x → x ≤ 8 → zn_o (zw_ra σ a) 0 (σ a 4) (σ a 5) (σ a 6) s x = zn_o (zw_ra σ b) 0 (σ b 4) (σ b 5) (σ b 6) s x))) → 1000000 - x3_6 < (fuel : Int) → V 6 [some (ZR 134), some (ZR a), some (ZR b), some (ZI x3_6)] [] 284 σ_6 := by
    intro fuel
    induction fuel with
    | zero =>
      intro x3_6 σ_6 hx3_6 hσ_6 hFσ_6 hi6_0 hi6_1 hi6_2 hm6
      exfalso; omega
    | succ fuel ih =>
      intro x3_6 σ_6 hx3_6 hσ_6 hFσ_6 hi6_0 hi6_1 hi6_2 hm6
      have ih6 := ih
      show V 6 [some (ZR 134), some (ZR a), some (ZR b), some (ZI x3_6)] [] 284 σ_6
      refine zr_iload_n (pc := 6) hV dX2_leaveTheSame_6 rfl rfl ?_
      refine zr_ldc (pc := 7) (v := 1000000) hV 1000000 dX2_leaveTheSame_7 kX2_72 (by decide) ?_
      refine zr_icmp_ge (pc := 9) hV 63 dX2_leaveTheSame_9 (by decide) (by omega) ⟨by decide, by decide⟩ (fun c2 => ?_) (fun c2 => ?_)
      · show V 63 [some (ZR 134), some (ZR a), some (ZR b), some (ZI x3_6)] [] 284 σ_6
        refine zr_iconst (pc := 63) hV 1 dX2_leaveTheSame_63 rfl ?_
        exact zr_zret (pc := 64) hV dX2_leaveTheSame_64 rfl rfl (by omega) ⟨_, rfl, ⟨by decide, by decide⟩, hσ_6, hFσ_6, (by omega), (show (1 : Int) = 1 ↔ zn_Lk (zw_ra σ a) 0 (σ a 4) (σ a 5) (σ a 6) (zw_ra σ b) 0 (σ b 4) (σ b 5) (σ b 6) from (by exfalso; have z := zn_K_le hi6_0; omega))⟩
      · show V 12 [some (ZR 134), some (ZR a), some (ZR b), some (ZI x3_6)] [] 284 σ_6
        have raa6 : zw_ra σ_6 a = zw_ra σ a := zw_ra_fr (fun k i k2 k5 => by obtain rfl | rfl | rfl | rfl : k = 2 ∨ k = 3 ∨ k = 4 ∨ k = 5 := (by omega); exact hFσ_6 _ _ (zc_out_ar (zc_p4_2 ka) rfl); exact hFσ_6 _ _ (zc_out_ar (zc_p4_3 ka) rfl); exact hFσ_6 _ _ (zc_out_ar (zc_p4_4 ka) rfl); exact hFσ_6 _ _ (zc_out_ar (zc_p4_5 ka) rfl))
        have e4a6 : σ_6 a 4 = σ a 4 := hFσ_6 a 4 (zc_out_at ka rfl)
        have e5a6 : σ_6 a 5 = σ a 5 := hFσ_6 a 5 (zc_out_at ka rfl)
        have e6a6 : σ_6 a 6 = σ a 6 := hFσ_6 a 6 (zc_out_at ka rfl)
        have ooa6 : zq_hid (zw_oo σ_6 a) := zw_oo_fr e4a6 e5a6 e6a6 (fun k i k2 k5 => by obtain rfl | rfl | rfl | rfl : k = 2 ∨ k = 3 ∨ k = 4 ∨ k = 5 := (by omega); exact hFσ_6 _ _ (zc_out_ar (zc_p4_2 ka) rfl); exact hFσ_6 _ _ (zc_out_ar (zc_p4_3 ka) rfl); exact hFσ_6 _ _ (zc_out_ar (zc_p4_4 ka) rfl); exact hFσ_6 _ _ (zc_out_ar (zc_p4_5 ka) rfl)) q0
        have rab6 : zw_ra σ_6 b = zw_ra σ b := zw_ra_fr (fun k i k2 k5 => by obtain rfl | rfl | rfl | rfl : k = 2 ∨ k = 3 ∨ k = 4 ∨ k = 5 := (by omega); exact hFσ_6 _ _ (zc_out_ar (zc_p4_2 kb) rfl); exact hFσ_6 _ _ (zc_out_ar (zc_p4_3 kb) rfl); exact hFσ_6 _ _ (zc_out_ar (zc_p4_4 kb) rfl); exact hFσ_6 _ _ (zc_out_ar (zc_p4_5 kb) rfl))
        have e4b6 : σ_6 b 4 = σ b 4 := hFσ_6 b 4 (zc_out_at kb rfl)
        have e5b6 : σ_6 b 5 = σ b 5 := hFσ_6 b 5 (zc_out_at kb rfl)
        have e6b6 : σ_6 b 6 = σ b 6 := hFσ_6 b 6 (zc_out_at kb rfl)
        have oob6 : zq_hid (zw_oo σ_6 b) := zw_oo_fr e4b6 e5b6 e6b6 (fun k i k2 k5 => by obtain rfl | rfl | rfl | rfl : k = 2 ∨ k = 3 ∨ k = 4 ∨ k = 5 := (by omega); exact hFσ_6 _ _ (zc_out_ar (zc_p4_2 kb) rfl); exact hFσ_6 _ _ (zc_out_ar (zc_p4_3 kb) rfl); exact hFσ_6 _ _ (zc_out_ar (zc_p4_4 kb) rfl); exact hFσ_6 _ _ (zc_out_ar (zc_p4_5 kb) rfl)) q1
        have H6 : zn_H σ_6 := ⟨-1, hi6_0, zn_fs_n _⟩
        refine zr_aload_n (pc := 12) hV dX2_leaveTheSame_12 rfl rfl ?_
        refine zr_aload_n (pc := 13) hV dX2_leaveTheSame_13 rfl rfl ?_
        refine zr_callVv (pc := 14) hV [ZR a] (st := []) (c_X2_doAfresh_2 (σ := σ_6) hσ_6 a ka ooa6 H6) dX2_leaveTheSame_14 mX2_100 (zc_k134 zc_s134) (zc_pos zc_s134 rfl) (by decide) (Nat.le_of_ble_eq_true rfl) (Nat.le_refl _) (fun σ14 pσ14 => ?_)
        obtain ⟨hσ14, hfσ14, pσ14, wσ14⟩ := pσ14
        have hFσ14 := zc_Fc hfσ14 rfl hFσ_6
        have t3 := zc_g4_4 hσ_6 ka
        have t4 : σ_6 a 4 = σ a 4 := hFσ_6 _ _ (zc_out_at ka rfl)
        have t5 := zc_g4_5 hσ_6 ka
        have t6 : σ_6 a 5 = σ a 5 := hFσ_6 _ _ (zc_out_at ka rfl)
        have t7 := zc_g4_6 hσ_6 ka
        have t8 : σ_6 a 6 = σ a 6 := hFσ_6 _ _ (zc_out_at ka rfl)
        refine zr_aload_n (pc := 17) hV dX2_leaveTheSame_17 rfl rfl ?_
        refine zr_getR (pc := 18) hV 2 136 dX2_leaveTheSame_18 fX2_15 rfl rfl (zc_k134 zc_s134) (zc_pos zc_s134 rfl) (zc_g134_2 hσ14 zc_s134) (by decide) ?_
        refine zr_iconst (pc := 21) hV 0 dX2_leaveTheSame_21 rfl ?_
        refine zr_aload_n (pc := 22) hV dX2_leaveTheSame_22 rfl rfl ?_
        refine zr_getR (pc := 23) hV 3 137 dX2_leaveTheSame_23 fX2_18 rfl rfl (zc_k134 zc_s134) (zc_pos zc_s134 rfl) (zc_g134_3 hσ14 zc_s134) (by decide) ?_
        refine zr_iconst (pc := 26) hV 0 dX2_leaveTheSame_26 rfl ?_
        refine zr_bipush (pc := 27) hV 9 dX2_leaveTheSame_27 (by decide) ?_
        refine zr_copy (pc := 29) hV dX2_leaveTheSame_29 lX2_80 lcp_nat lcp_stat lcp_ini (zc_k136 zc_s136) (zc_k137 zc_s137) (zc_pos zc_s136 rfl) (zc_pos zc_s137 rfl) rfl rfl (by omega) (by omega) (by omega) rfl rfl (fun σ29 eσ29 => ?_)
        have hσ29 : zc_T σ29 := zc_Tcell eσ29 hσ14 zc_s137 (fun i => by split; exact zc_ga136 hσ14 zc_s136 _; exact zc_ga137 hσ14 zc_s137 _)
        have hFσ29 := zc_Fcell eσ29 zc_s137 rfl hFσ14
        have k5 : σ29 134 5 = σ14 134 5 := by rw [eσ29, zc_cell_ne (by omega)]
        have k0 : σ29 134 0 = σ14 134 0 := by rw [eσ29, zc_cell_ne (by omega)]
        have G29 : zn_G σ_6 σ29 := zn_G_fr wσ14.1 k0 k5 (fun i => by rw [eσ29, zc_cell_ne (by omega)]) (fun i => by rw [eσ29, zc_cell_ne (by omega)])
        have H29 := zn_H_G H6 G29
        have f137 : ∀ y, 0 ≤ y → y ≤ 8 → σ29 137 y = σ14 136 y := fun y y0 y8 => by rw [eσ29, zq_cell_s, if_pos (by omega), show 0 + (y - 0) = y by omega]
        have rab29 : zw_ra σ29 b = zw_ra σ b := zw_ra_fr (fun k i k2 k5 => by obtain rfl | rfl | rfl | rfl : k = 2 ∨ k = 3 ∨ k = 4 ∨ k = 5 := (by omega); exact hFσ29 _ _ (zc_out_ar (zc_p4_2 kb) rfl); exact hFσ29 _ _ (zc_out_ar (zc_p4_3 kb) rfl); exact hFσ29 _ _ (zc_out_ar (zc_p4_4 kb) rfl); exact hFσ29 _ _ (zc_out_ar (zc_p4_5 kb) rfl))
        have e4b29 : σ29 b 4 = σ b 4 := hFσ29 b 4 (zc_out_at kb rfl)
        have e5b29 : σ29 b 5 = σ b 5 := hFσ29 b 5 (zc_out_at kb rfl)
        have e6b29 : σ29 b 6 = σ b 6 := hFσ29 b 6 (zc_out_at kb rfl)
        have oob29 : zq_hid (zw_oo σ29 b) := zw_oo_fr e4b29 e5b29 e6b29 (fun k i k2 k5 => by obtain rfl | rfl | rfl | rfl : k = 2 ∨ k = 3 ∨ k = 4 ∨ k = 5 := (by omega); exact hFσ29 _ _ (zc_out_ar (zc_p4_2 kb) rfl); exact hFσ29 _ _ (zc_out_ar (zc_p4_3 kb) rfl); exact hFσ29 _ _ (zc_out_ar (zc_p4_4 kb) rfl); exact hFσ29 _ _ (zc_out_ar (zc_p4_5 kb) rfl)) q1
        refine zr_aload_n (pc := 32) hV dX2_leaveTheSame_32 rfl rfl ?_
        refine zr_aload_n (pc := 33) hV dX2_leaveTheSame_33 rfl rfl ?_
        refine zr_callVv (pc := 34) hV [ZR b] (st := []) (c_X2_doAfresh_2 (σ := σ29) hσ29 b kb oob29 H29) dX2_leaveTheSame_34 mX2_100 (zc_k134 zc_s134) (zc_pos zc_s134 rfl) (by decide) (Nat.le_of_ble_eq_true rfl) (Nat.le_refl _) (fun σ34 pσ34 => ?_)
        obtain ⟨hσ34, hfσ34, pσ34, wσ34⟩ := pσ34
        have hFσ34 := zc_Fc hfσ34 rfl hFσ29
        have t9 := zc_g4_4 hσ29 kb
        have t10 : σ29 b 4 = σ14 b 4 := by rw [eσ29]; exact zc_cell_ne (zc_dk kb zc_s137 rfl)
        have t11 : σ14 b 4 = σ_6 b 4 := hfσ14 _ _ (zc_out_at kb rfl)
        have t12 : σ_6 b 4 = σ b 4 := hFσ_6 _ _ (zc_out_at kb rfl)
        have t13 := zc_g4_5 hσ29 kb
        have t14 : σ29 b 5 = σ14 b 5 := by rw [eσ29]; exact zc_cell_ne (zc_dk kb zc_s137 rfl)
        have t15 : σ14 b 5 = σ_6 b 5 := hfσ14 _ _ (zc_out_at kb rfl)
        have t16 : σ_6 b 5 = σ b 5 := hFσ_6 _ _ (zc_out_at kb rfl)
        have t17 := zc_g4_6 hσ29 kb
        have t18 : σ29 b 6 = σ14 b 6 := by rw [eσ29]; exact zc_cell_ne (zc_dk kb zc_s137 rfl)
        have t19 : σ14 b 6 = σ_6 b 6 := hfσ14 _ _ (zc_out_at kb rfl)
        have t20 : σ_6 b 6 = σ b 6 := hFσ_6 _ _ (zc_out_at kb rfl)
        have G34 := zn_G_t H6 G29 wσ34.1
        have H34 := zn_H_G H6 G34
        have h137 : ∀ y, 0 ≤ y → y ≤ 8 → σ34 137 y = σ14 136 y := fun y y0 y8 => by rw [hfσ34 137 y (zc_out_ar zc_s137 rfl)]; exact f137 y y0 y8
        have F34 : zq_hid (zn_Fh σ34) := fun y y0 y8 => by rw [h137 y y0 y8]; exact wσ14.2.1 y y0 y8
        refine zr_aload_n (pc := 37) hV dX2_leaveTheSame_37 rfl rfl ?_
        refine zr_bipush (pc := 38) hV 9 dX2_leaveTheSame_38 (by decide) ?_
        refine zr_callVi (pc := 40) hV [ZI 9] (st := []) (c_X2_isUnlike_2 (σ := σ34) hσ34 9 (by omega) H34 wσ34.2.1 F34) dX2_leaveTheSame_40 mX2_86 (zc_k134 zc_s134) (zc_pos zc_s134 rfl) (by decide) (Nat.le_of_ble_eq_true rfl) (Nat.le_refl _) (fun r40 σ40 hr40 pσ40 => ?_)
        obtain ⟨hσ40, hfσ40, pσ40, wσ40⟩ := pσ40
        have hFσ40 := zc_Fc hfσ40 rfl hFσ34
        have G40 := zn_G_t H6 G34 wσ40.1
        have W40 := G40.1 _ hi6_0 (zn_fs_n _)
        have key : ∀ s, zn_st s → zn_A σ40 s → (r40 = 1 ↔ ¬ (∀ x, 0 ≤ x → x ≤ 8 → zn_o (zw_ra σ a) 0 (σ a 4) (σ a 5) (σ a 6) s x = zn_o (zw_ra σ b) 0 (σ b 4) (σ b 5) (σ b 6) s x)) := fun s hs a => by have c40 := zn_A_cp W40 a; have c34 := zn_cp_X wσ40.1.2 c40; have c14 : zn_cp σ14 s := (fun y y0 y9 q => by have z := zn_cp_X wσ34.1.2 c34 y y0 y9 (by rw [eσ29, zc_cell_ne (by omega)]; exact q); rw [eσ29, zc_cell_ne (by omega)] at z; exact z); have ea := wσ14.2.2 s hs c14; have eb := wσ34.2.2 s hs c34; rw [raa6, e4a6, e5a6, e6a6] at ea; rw [rab29, e4b29, e5b29, e6b29] at eb; have fe : ∀ y, 0 ≤ y → y ≤ 8 → zn_fv σ34 s y = zn_cv σ14 s y := (fun y y0 y8 => by show (if σ34 137 y ≠ -1 then σ34 137 y else s y) = if y ≤ 8 ∧ σ14 136 y ≠ -1 then σ14 136 y else s y; rw [h137 y y0 y8]; by_cases c : σ14 136 y ≠ -1; (rw [if_pos c, if_pos ⟨y8, c⟩]); (rw [if_neg c, if_neg (fun q => c q.2)])); rw [wσ40.2 s hs c40]; exact ⟨fun ⟨y, y0, y8, yb, q⟩ h => q (by rw [fe y y0 y8, ea y y0 y8, eb y y0 y8]; exact h y y0 y8), fun h => Classical.byContradiction (fun n => h (fun y y0 y8 => by have z : zn_fv σ34 s y = zn_cv σ34 s y := Classical.byContradiction (fun z => n ⟨y, y0, y8, by omega, z⟩); rw [fe y y0 y8, ea y y0 y8, eb y y0 y8] at z; exact z))⟩
        refine zr_if_eq (pc := 43) hV 48 dX2_leaveTheSame_43 (by decide) (by omega) (fun c21 => ?_) (fun c21 => ?_)
        · show V 48 [some (ZR 134), some (ZR a), some (ZR b), some (ZI x3_6)] [] 284 σ40
          refine zr_aload_n (pc := 48) hV dX2_leaveTheSame_48 rfl rfl ?_
          refine zr_callVi (pc := 49) hV [] (st := []) (c_X2_goToNext_2 (σ := σ40) hσ40) dX2_leaveTheSame_49 mX2_76 (zc_k134 zc_s134) (zc_pos zc_s134 rfl) (by decide) (Nat.le_of_ble_eq_true rfl) (Nat.le_refl _) (fun r49 σ49 hr49 pσ49 => ?_)
          obtain ⟨hσ49, hfσ49, pσ49, wσ49⟩ := pσ49
          have hFσ49 := zc_Fc hfσ49 rfl hFσ40
          refine zr_if_ne (pc := 52) hV 57 dX2_leaveTheSame_52 (by decide) (by omega) (fun c22 => ?_) (fun c22 => ?_)
          · show V 57 [some (ZR 134), some (ZR a), some (ZR b), some (ZI x3_6)] [] 284 σ49
            refine zr_iinc (pc := 57) hV [some (ZR 134), some (ZR a), some (ZR b), some (ZI (x3_6 + 1))] (x3_6 + 1) dX2_leaveTheSame_57 rfl rfl (by decide) rfl rfl ?_
            refine zr_goto (pc := 60) hV 6 dX2_leaveTheSame_60 (by decide) ?_
            exact ih6 (x3_6 + 1) σ49 (by omega) hσ49 hFσ49 (wσ49 _ W40).1 (by have z := ((wσ49 _ W40).2.2 (by omega)).1; have y := zn_K_G hi6_0 G40; omega) (fun s hs => (hi6_2 s hs).elim (fun z => ((((wσ49 _ W40).2.2 (by omega)).2 s hs (zn_R_G hi6_0 (zn_fs_n _) G40 hs z)).elim (fun a => Or.inr (Classical.byContradiction (fun q => absurd ((key s hs a).mpr q) (by omega)))) Or.inl)) Or.inr) (by omega)
          · show V 55 [some (ZR 134), some (ZR a), some (ZR b), some (ZI x3_6)] [] 284 σ49
            refine zr_iconst (pc := 55) hV 1 dX2_leaveTheSame_55 rfl ?_
            exact zr_zret (pc := 56) hV dX2_leaveTheSame_56 rfl rfl (by omega) ⟨_, rfl, ⟨by decide, by decide⟩, hσ49, hFσ49, (by omega), (show (1 : Int) = 1 ↔ zn_Lk (zw_ra σ a) 0 (σ a 4) (σ a 5) (σ a 6) (zw_ra σ b) 0 (σ b 4) (σ b 5) (σ b 6) from ⟨fun _ s hs => by rcases hi6_2 s hs with z | z; (have a := (wσ49 _ W40).2.1 (by omega) s hs (zn_R_G hi6_0 (zn_fs_n _) G40 hs z); exact Classical.byContradiction (fun q => absurd ((key s hs a).mpr q) (by omega))); exact z, fun _ => rfl⟩)⟩
        · show V 46 [some (ZR 134), some (ZR a), some (ZR b), some (ZI x3_6)] [] 284 σ40
          refine zr_iconst (pc := 46) hV 0 dX2_leaveTheSame_46 rfl ?_
          exact zr_zret (pc := 47) hV dX2_leaveTheSame_47 rfl rfl (by omega) ⟨_, rfl, ⟨by decide, by decide⟩, hσ40, hFσ40, (by omega), (show (0 : Int) = 1 ↔ zn_Lk (zw_ra σ a) 0 (σ a 4) (σ a 5) (σ a 6) (zw_ra σ b) 0 (σ b 4) (σ b 5) (σ b 6) from ⟨fun h => absurd h (by decide), fun h => by exfalso; obtain ⟨s, hs, a⟩ := zn_A_some W40 (zn_fs_n _); exact (key s hs a).mp (by omega) (h s hs)⟩)⟩
  exact L6 (1000000 - (0 : Int) + 1 : Int).toNat 0 σ1 (by omega) hσ1 hFσ1 W0.1 (by have z := W0.2.1; omega) (fun s _ => Or.inl (W0.2.2 s)) (by omega)
