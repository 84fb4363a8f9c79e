set_option maxHeartbeats 800000 in
theorem c_X10_clear {σ : zq_S} (hσ : zc_T σ)   : zq_C zc_w yX10_clear cX10_clear 1 (none) 1 23 284 284 [ZR 141] σ (zq_pv (fun τ => zc_T τ ∧ zc_Fr [(141, 3), (141, 4), (142, -1), (143, -1)] σ τ ∧ (True))) := by
  refine zq_C_of (by decide) (Nat.le_refl _) (Nat.le_of_ble_eq_true rfl) [some (ZR 141)] rfl (fun V hV => ?_)
  have hFσ := zc_Fr_rf [(141, 3), (141, 4), (142, -1), (143, -1)] σ
  show V 0 [some (ZR 141)] [] 284 σ
  refine zr_aload_n (pc := 0) hV dX10_clear_0 rfl rfl ?_
  refine zr_getR (pc := 1) hV 1 142 dX10_clear_1 fX10_11 rfl rfl (zc_k141 zc_s141) (zc_pos zc_s141 rfl) (zc_g141_1 hσ zc_s141) (by decide) ?_
  refine zr_iconst (pc := 4) hV 0 dX10_clear_4 rfl ?_
  refine zr_callSv (pc := 5) hV [ZR 142, ZI 0] (st := []) (c_fill (σ := σ) hσ 142 0 zc_s142 rfl rfl ⟨by decide, by decide⟩ (fun _ => ⟨by omega, by omega⟩)) dX10_clear_5 mX10_29 (by decide) (Nat.le_of_ble_eq_true rfl) (Nat.le_refl _) (fun σ5 pσ5 => ?_)
  obtain ⟨hσ5, hfσ5, pσ5⟩ := pσ5
  have hFσ5 := zc_Fc hfσ5 rfl hFσ
  refine zr_aload_n (pc := 8) hV dX10_clear_8 rfl rfl ?_
  refine zr_getR (pc := 9) hV 2 143 dX10_clear_9 fX10_15 rfl rfl (zc_k141 zc_s141) (zc_pos zc_s141 rfl) (zc_g141_2 hσ5 zc_s141) (by decide) ?_
  refine zr_iconst (pc := 12) hV 0 dX10_clear_12 rfl ?_
  refine zr_callSv (pc := 13) hV [ZR 143, ZI 0] (st := []) (c_fill (σ := σ5) hσ5 143 0 zc_s143 rfl rfl ⟨by decide, by decide⟩ (fun _ => ⟨by omega, by omega⟩)) dX10_clear_13 mX10_29 (by decide) (Nat.le_of_ble_eq_true rfl) (Nat.le_refl _) (fun σ13 pσ13 => ?_)
  obtain ⟨hσ13, hfσ13, pσ13⟩ := pσ13
  have hFσ13 := zc_Fc hfσ13 rfl hFσ5
  refine zr_aload_n (pc := 16) hV dX10_clear_16 rfl rfl ?_
  refine zr_iconst (pc := 17) hV 0 dX10_clear_17 rfl ?_
  refine zr_putI (pc := 18) hV 3 dX10_clear_18 fX10_35 rfl rfl rfl (zc_k141 zc_s141) (zc_pos zc_s141 rfl) (fun σ18 eσ18 => ?_)
  have hσ18 : zc_T σ18 := zc_u141_3 eσ18 hσ13 zc_s141 (by omega)
  have hFσ18 := zc_Fw eσ18 zc_s141 rfl hFσ13
  refine zr_aload_n (pc := 21) hV dX10_clear_21 rfl rfl ?_
  refine zr_iconst (pc := 22) hV 0 dX10_clear_22 rfl ?_
  refine zr_putI (pc := 23) hV 4 dX10_clear_23 fX10_39 rfl rfl rfl (zc_k141 zc_s141) (zc_pos zc_s141 rfl) (fun σ23 eσ23 => ?_)
  have hσ23 : zc_T σ23 := zc_u141_4 eσ23 hσ18 zc_s141 (by omega)
  have hFσ23 := zc_Fw eσ23 zc_s141 rfl hFσ18
  exact zr_vret (pc := 26) hV dX10_clear_26 rfl rfl ⟨rfl, hσ23, hFσ23, trivial⟩
set_option maxHeartbeats 800000 in
theorem c_X10_copyOf {σ : zq_S} (hσ : zc_T σ)   : zq_C zc_w yX10_copyOf cX10_copyOf 2 (none) 1 60 284 284 [ZR 147, ZR 141] σ (zq_pv (fun τ => zc_T τ ∧ zc_Fr [(147, 0), (147, 3), (147, 4), (148, -1), (149, -1)] σ τ ∧ (True))) := by
  refine zq_C_of (by decide) (Nat.le_refl _) (Nat.le_of_ble_eq_true rfl) [some (ZR 147), some (ZR 141)] rfl (fun V hV => ?_)
  have hFσ := zc_Fr_rf [(147, 0), (147, 3), (147, 4), (148, -1), (149, -1)] σ
  show V 0 [some (ZR 147), some (ZR 141)] [] 284 σ
  refine zr_aload_n (pc := 0) hV dX10_copyOf_0 rfl rfl ?_
  refine zr_getR (pc := 1) hV 1 142 dX10_copyOf_1 fX10_11 rfl rfl (zc_k141 zc_s141) (zc_pos zc_s141 rfl) (zc_g141_1 hσ zc_s141) (by decide) ?_
  refine zr_iconst (pc := 4) hV 0 dX10_copyOf_4 rfl ?_
  refine zr_aload_n (pc := 5) hV dX10_copyOf_5 rfl rfl ?_
  refine zr_getR (pc := 6) hV 1 148 dX10_copyOf_6 fX10_11 rfl rfl (zc_k147 zc_s147) (zc_pos zc_s147 rfl) (zc_g147_1 hσ zc_s147) (by decide) ?_
  refine zr_iconst (pc := 9) hV 0 dX10_copyOf_9 rfl ?_
  refine zr_bipush (pc := 10) hV 8 dX10_copyOf_10 (by decide) ?_
  refine zr_copy (pc := 12) hV dX10_copyOf_12 lX10_42 lcp_nat lcp_stat lcp_ini (zc_k142 zc_s142) (zc_k148 zc_s148) (zc_pos zc_s142 rfl) (zc_pos zc_s148 rfl) rfl rfl (by omega) (by omega) (by omega) rfl rfl (fun σ12 eσ12 => ?_)
  have hσ12 : zc_T σ12 := zc_Tcell eσ12 hσ zc_s148 (fun i => by split; exact zc_ga142 hσ zc_s142 _; exact zc_ga148 hσ zc_s148 _)
  have hFσ12 := zc_Fcell eσ12 zc_s148 rfl hFσ
  refine zr_aload_n (pc := 15) hV dX10_copyOf_15 rfl rfl ?_
  refine zr_getR (pc := 16) hV 2 143 dX10_copyOf_16 fX10_15 rfl rfl (zc_k141 zc_s141) (zc_pos zc_s141 rfl) (zc_g141_2 hσ12 zc_s141) (by decide) ?_
  refine zr_iconst (pc := 19) hV 0 dX10_copyOf_19 rfl ?_
  refine zr_aload_n (pc := 20) hV dX10_copyOf_20 rfl rfl ?_
  refine zr_getR (pc := 21) hV 2 149 dX10_copyOf_21 fX10_15 rfl rfl (zc_k147 zc_s147) (zc_pos zc_s147 rfl) (zc_g147_2 hσ12 zc_s147) (by decide) ?_
  refine zr_iconst (pc := 24) hV 0 dX10_copyOf_24 rfl ?_
  refine zr_sipush (pc := 25) hV 256 dX10_copyOf_25 (by decide) ?_
  refine zr_copy (pc := 28) hV dX10_copyOf_28 lX10_42 lcp_nat lcp_stat lcp_ini (zc_k143 zc_s143) (zc_k149 zc_s149) (zc_pos zc_s143 rfl) (zc_pos zc_s149 rfl) rfl rfl (by omega) (by omega) (by omega) rfl rfl (fun σ28 eσ28 => ?_)
  have hσ28 : zc_T σ28 := zc_Tcell eσ28 hσ12 zc_s149 (fun i => by split; exact zc_ga143 hσ12 zc_s143 _; exact zc_ga149 hσ12 zc_s149 _)
  have hFσ28 := zc_Fcell eσ28 zc_s149 rfl hFσ12
  refine zr_aload_n (pc := 31) hV dX10_copyOf_31 rfl rfl ?_
  refine zr_aload_n (pc := 32) hV dX10_copyOf_32 rfl rfl ?_
  refine zr_getI (pc := 33) hV 3 dX10_copyOf_33 fX10_35 rfl rfl (zc_k141 zc_s141) (zc_pos zc_s141 rfl) ?_
  have t1 := zc_g141_3 hσ28 zc_s141
  have t2 : σ28 141 3 = σ12 141 3 := by rw [eσ28]; exact zc_cell_ne (zc_dk zc_s141 zc_s149 rfl)
  have t3 : σ12 141 3 = σ 141 3 := by rw [eσ12]; exact zc_cell_ne (zc_dk zc_s141 zc_s148 rfl)
  refine zr_putI (pc := 36) hV 3 dX10_copyOf_36 fX10_35 rfl rfl rfl (zc_k147 zc_s147) (zc_pos zc_s147 rfl) (fun σ36 eσ36 => ?_)
  have hσ36 : zc_T σ36 := zc_u147_3 eσ36 hσ28 zc_s147 (by omega)
  have hFσ36 := zc_Fw eσ36 zc_s147 rfl hFσ28
  refine zr_aload_n (pc := 39) hV dX10_copyOf_39 rfl rfl ?_
  refine zr_aload_n (pc := 40) hV dX10_copyOf_40 rfl rfl ?_
  refine zr_getI (pc := 41) hV 4 dX10_copyOf_41 fX10_39 rfl rfl (zc_k141 zc_s141) (zc_pos zc_s141 rfl) ?_
  have t4 := zc_g141_4 hσ36 zc_s141
  have t5 : σ36 141 4 = σ28 141 4 := by rw [eσ36]; exact zq_up_ne (zc_dk zc_s141 zc_s147 rfl)
  have t6 : σ28 141 4 = σ12 141 4 := by rw [eσ28]; exact zc_cell_ne (zc_dk zc_s141 zc_s149 rfl)
  have t7 : σ12 141 4 = σ 141 4 := by rw [eσ12]; exact zc_cell_ne (zc_dk zc_s141 zc_s148 rfl)
  refine zr_putI (pc := 44) hV 4 dX10_copyOf_44 fX10_39 rfl rfl rfl (zc_k147 zc_s147) (zc_pos zc_s147 rfl) (fun σ44 eσ44 => ?_)
  have hσ44 : zc_T σ44 := zc_u147_4 eσ44 hσ36 zc_s147 (by omega)
  have hFσ44 := zc_Fw eσ44 zc_s147 rfl hFσ36
  refine zr_aload_n (pc := 47) hV dX10_copyOf_47 rfl rfl ?_
  refine zr_aload_n (pc := 48) hV dX10_copyOf_48 rfl rfl ?_
  refine zr_getI (pc := 49) hV 0 dX10_copyOf_49 fX10_48 rfl rfl (zc_k141 zc_s141) (zc_pos zc_s141 rfl) ?_
  have t8 := zc_g141_0 hσ44 zc_s141
  have t9 : σ44 141 0 = σ36 141 0 := by rw [eσ44]; exact zq_up_ne (zc_dk zc_s141 zc_s147 rfl)
  have t10 : σ36 141 0 = σ28 141 0 := by rw [eσ36]; exact zq_up_ne (zc_dk zc_s141 zc_s147 rfl)
  have t11 : σ28 141 0 = σ12 141 0 := by rw [eσ28]; exact zc_cell_ne (zc_dk zc_s141 zc_s149 rfl)
  have t12 : σ12 141 0 = σ 141 0 := by rw [eσ12]; exact zc_cell_ne (zc_dk zc_s141 zc_s148 rfl)
  refine zr_putI (pc := 52) hV 0 dX10_copyOf_52 fX10_48 rfl rfl rfl (zc_k147 zc_s147) (zc_pos zc_s147 rfl) (fun σ52 eσ52 => ?_)
  have hσ52 : zc_T σ52 := zc_u147_0 eσ52 hσ44 zc_s147 (by omega)
  have hFσ52 := zc_Fw eσ52 zc_s147 rfl hFσ44
  exact zr_vret (pc := 55) hV dX10_copyOf_55 rfl rfl ⟨rfl, hσ52, hFσ52, trivial⟩
set_option maxHeartbeats 800000 in
theorem c_X10_mostOf {σ : zq_S} (hσ : zc_T σ) (what : Int) (q0 : zq_in what) : zq_C zc_w yX10_mostOf cX10_mostOf 2 (some .int) 0 0 284 284 [ZR 141, ZI what] σ (zq_pp σ (fun r => True)) := by
  refine zq_C_of (by decide) (Nat.le_refl _) (Nat.le_of_ble_eq_true rfl) [some (ZR 141), some (ZI what)] rfl (fun V hV => ?_)
  show V 0 [some (ZR 141), some (ZI what)] [] 284 σ
  refine zr_iload_n (pc := 0) hV dX10_mostOf_0 rfl rfl ?_
  refine zr_iconst (pc := 1) hV 2 dX10_mostOf_1 rfl ?_
  refine zr_icmp_ne (pc := 2) hV 9 dX10_mostOf_2 (by decide) (by omega) ⟨by decide, by decide⟩ (fun c1 => ?_) (fun c1 => ?_)
  · show V 9 [some (ZR 141), some (ZI what)] [] 284 σ
    refine zr_iload_n (pc := 9) hV dX10_mostOf_9 rfl rfl ?_
    refine zr_iconst (pc := 10) hV 3 dX10_mostOf_10 rfl ?_
    refine zr_icmp_ne (pc := 11) hV 19 dX10_mostOf_11 (by decide) (by omega) ⟨by decide, by decide⟩ (fun c2 => ?_) (fun c2 => ?_)
    · show V 19 [some (ZR 141), some (ZI what)] [] 284 σ
      refine zr_aload_n (pc := 19) hV dX10_mostOf_19 rfl rfl ?_
      refine zr_getI (pc := 20) hV 0 dX10_mostOf_20 fX10_48 rfl rfl (zc_k141 zc_s141) (zc_pos zc_s141 rfl) ?_
      have t3 := zc_g141_0 hσ zc_s141
      show V 23 [some (ZR 141), some (ZI what)] [ZI (σ 141 0)] 284 σ
      exact zr_iret (pc := 23) hV dX10_mostOf_23 rfl rfl ⟨rfl, _, rfl, (by omega), trivial⟩
    · show V 14 [some (ZR 141), some (ZI what)] [] 284 σ
      refine zr_bipush (pc := 14) hV 63 dX10_mostOf_14 (by decide) ?_
      refine zr_goto (pc := 16) hV 23 dX10_mostOf_16 (by decide) ?_
      show V 23 [some (ZR 141), some (ZI what)] [ZI 63] 284 σ
      exact zr_iret (pc := 23) hV dX10_mostOf_23 rfl rfl ⟨rfl, _, rfl, ⟨by decide, by decide⟩, trivial⟩
  · show V 5 [some (ZR 141), some (ZI what)] [] 284 σ
    refine zr_iconst (pc := 5) hV 1 dX10_mostOf_5 rfl ?_
    refine zr_goto (pc := 6) hV 23 dX10_mostOf_6 (by decide) ?_
    show V 23 [some (ZR 141), some (ZI what)] [ZI 1] 284 σ
    exact zr_iret (pc := 23) hV dX10_mostOf_23 rfl rfl ⟨rfl, _, rfl, ⟨by decide, by decide⟩, trivial⟩
set_option maxHeartbeats 800000 in
theorem c_X10_held {σ : zq_S} (hσ : zc_T σ) (what : Int) (i : Int) (q0 : zq_in what) (q1 : zq_in i) : zq_C zc_w yX10_held cX10_held 3 (some .int) 0 0 284 284 [ZR 141, ZI what, ZI i] σ (zq_pp σ (fun r => True)) := by
  refine zq_C_of (by decide) (Nat.le_refl _) (Nat.le_of_ble_eq_true rfl) [some (ZR 141), some (ZI what), some (ZI i)] rfl (fun V hV => ?_)
  show V 0 [some (ZR 141), some (ZI what), some (ZI i)] [] 284 σ
  refine zr_iload_n (pc := 0) hV dX10_held_0 rfl rfl ?_
  by_cases c1 : what = 0
  · refine zr_eqI (V := V) 0 c1 ?_
    refine zr_tableIn (pc := 1) hV 28 dX10_held_1 ⟨by decide, by decide⟩ (by decide) (by decide) rfl (by decide) ?_
    show V 28 [some (ZR 141), some (ZI what), some (ZI i)] [] 284 σ
    refine zr_aload_n (pc := 28) hV dX10_held_28 rfl rfl ?_
    refine zr_getR (pc := 29) hV 1 142 dX10_held_29 fX10_11 rfl rfl (zc_k141 zc_s141) (zc_pos zc_s141 rfl) (zc_g141_1 hσ zc_s141) (by decide) ?_
    refine zr_iload_n (pc := 32) hV dX10_held_32 rfl rfl ?_
    refine zr_bipush (pc := 33) hV 7 dX10_held_33 (by decide) ?_
    refine zr_iand (pc := 35) hV dX10_held_35 ?_
    have t2 := zq_and_mask i 3 7 8 (by decide) (by decide) (by decide)
    refine zr_iald (pc := 36) hV dX10_held_36 (zc_k142 zc_s142) (zc_pos zc_s142 rfl) rfl (by omega) ?_
    have t3 := zc_ga142 hσ zc_s142 (zq_and i 7)
    exact zr_iret (pc := 37) hV dX10_held_37 rfl rfl ⟨rfl, _, rfl, (by omega), trivial⟩
  by_cases c4 : what = 1
  · refine zr_eqI (V := V) 1 c4 ?_
    refine zr_tableIn (pc := 1) hV 38 dX10_held_1 ⟨by decide, by decide⟩ (by decide) (by decide) rfl (by decide) ?_
    show V 38 [some (ZR 141), some (ZI what), some (ZI i)] [] 284 σ
    refine zr_aload_n (pc := 38) hV dX10_held_38 rfl rfl ?_
    refine zr_getR (pc := 39) hV 2 143 dX10_held_39 fX10_15 rfl rfl (zc_k141 zc_s141) (zc_pos zc_s141 rfl) (zc_g141_2 hσ zc_s141) (by decide) ?_
    refine zr_iload_n (pc := 42) hV dX10_held_42 rfl rfl ?_
    refine zr_sipush (pc := 43) hV 255 dX10_held_43 (by decide) ?_
    refine zr_iand (pc := 46) hV dX10_held_46 ?_
    have t5 := zq_and_mask i 8 255 256 (by decide) (by decide) (by decide)
    refine zr_iald (pc := 47) hV dX10_held_47 (zc_k143 zc_s143) (zc_pos zc_s143 rfl) rfl (by omega) ?_
    have t6 := zc_ga143 hσ zc_s143 (zq_and i 255)
    exact zr_iret (pc := 48) hV dX10_held_48 rfl rfl ⟨rfl, _, rfl, (by omega), trivial⟩
  by_cases c7 : what = 2
  · refine zr_eqI (V := V) 2 c7 ?_
    refine zr_tableIn (pc := 1) hV 49 dX10_held_1 ⟨by decide, by decide⟩ (by decide) (by decide) rfl (by decide) ?_
    show V 49 [some (ZR 141), some (ZI what), some (ZI i)] [] 284 σ
    refine zr_aload_n (pc := 49) hV dX10_held_49 rfl rfl ?_
    refine zr_getI (pc := 50) hV 3 dX10_held_50 fX10_35 rfl rfl (zc_k141 zc_s141) (zc_pos zc_s141 rfl) ?_
    have t8 := zc_g141_3 hσ zc_s141
    exact zr_iret (pc := 53) hV dX10_held_53 rfl rfl ⟨rfl, _, rfl, (by omega), trivial⟩
  refine zr_tableOut (pc := 1) hV 54 dX10_held_1 (by omega) (by omega) (by decide) ?_
  show V 54 [some (ZR 141), some (ZI what), some (ZI i)] [] 284 σ
  refine zr_aload_n (pc := 54) hV dX10_held_54 rfl rfl ?_
  refine zr_getI (pc := 55) hV 4 dX10_held_55 fX10_39 rfl rfl (zc_k141 zc_s141) (zc_pos zc_s141 rfl) ?_
  have t9 := zc_g141_4 hσ zc_s141
  exact zr_iret (pc := 58) hV dX10_held_58 rfl rfl ⟨rfl, _, rfl, (by omega), trivial⟩
set_option maxHeartbeats 800000 in
theorem c_X10_hold {σ : zq_S} (hσ : zc_T σ) (what : Int) (i : Int) (v : Int) (q0 : zq_in what) (q1 : zq_in i) (q2 : zq_in v) : zq_C zc_w yX10_hold cX10_hold 4 (none) 0 0 284 284 [ZR 141, ZI what, ZI i, ZI v] σ (zq_pv (fun τ => zc_T τ ∧ zc_Fr [(141, 3), (141, 4), (142, -1), (143, -1)] σ τ ∧ (True))) := by
  refine zq_C_of (by decide) (Nat.le_refl _) (Nat.le_of_ble_eq_true rfl) [some (ZR 141), some (ZI what), some (ZI i), some (ZI v)] rfl (fun V hV => ?_)
  have hFσ := zc_Fr_rf [(141, 3), (141, 4), (142, -1), (143, -1)] σ
  show V 0 [some (ZR 141), some (ZI what), some (ZI i), some (ZI v)] [] 284 σ
  refine zr_iload_n (pc := 0) hV dX10_hold_0 rfl rfl ?_
  by_cases c1 : what = 0
  · refine zr_eqI (V := V) 0 c1 ?_
    refine zr_tableIn (pc := 1) hV 28 dX10_hold_1 ⟨by decide, by decide⟩ (by decide) (by decide) rfl (by decide) ?_
    show V 28 [some (ZR 141), some (ZI what), some (ZI i), some (ZI v)] [] 284 σ
    refine zr_aload_n (pc := 28) hV dX10_hold_28 rfl rfl ?_
    refine zr_getR (pc := 29) hV 1 142 dX10_hold_29 fX10_11 rfl rfl (zc_k141 zc_s141) (zc_pos zc_s141 rfl) (zc_g141_1 hσ zc_s141) (by decide) ?_
    refine zr_iload_n (pc := 32) hV dX10_hold_32 rfl rfl ?_
    refine zr_bipush (pc := 33) hV 7 dX10_hold_33 (by decide) ?_
    refine zr_iand (pc := 35) hV dX10_hold_35 ?_
    have t2 := zq_and_mask i 3 7 8 (by decide) (by decide) (by decide)
    refine zr_iload_n (pc := 36) hV dX10_hold_36 rfl rfl ?_
    refine zr_iast (pc := 37) hV dX10_hold_37 (zc_k142 zc_s142) (zc_pos zc_s142 rfl) rfl (by omega) (fun σ37 eσ37 => ?_)
    have hσ37 : zc_T σ37 := zc_ua142 eσ37 hσ zc_s142 (by omega)
    have hFσ37 := zc_Fa eσ37 zc_s142 rfl hFσ
    refine zr_goto (pc := 38) hV 68 dX10_hold_38 (by decide) ?_
    show V 68 [some (ZR 141), some (ZI what), some (ZI i), some (ZI v)] [] 284 σ37
    exact zr_vret (pc := 68) hV dX10_hold_68 rfl rfl ⟨rfl, hσ37, hFσ37, trivial⟩
  by_cases c3 : what = 1
  · refine zr_eqI (V := V) 1 c3 ?_
    refine zr_tableIn (pc := 1) hV 41 dX10_hold_1 ⟨by decide, by decide⟩ (by decide) (by decide) rfl (by decide) ?_
    show V 41 [some (ZR 141), some (ZI what), some (ZI i), some (ZI v)] [] 284 σ
    refine zr_aload_n (pc := 41) hV dX10_hold_41 rfl rfl ?_
    refine zr_getR (pc := 42) hV 2 143 dX10_hold_42 fX10_15 rfl rfl (zc_k141 zc_s141) (zc_pos zc_s141 rfl) (zc_g141_2 hσ zc_s141) (by decide) ?_
    refine zr_iload_n (pc := 45) hV dX10_hold_45 rfl rfl ?_
    refine zr_sipush (pc := 46) hV 255 dX10_hold_46 (by decide) ?_
    refine zr_iand (pc := 49) hV dX10_hold_49 ?_
    have t4 := zq_and_mask i 8 255 256 (by decide) (by decide) (by decide)
    refine zr_iload_n (pc := 50) hV dX10_hold_50 rfl rfl ?_
    refine zr_iast (pc := 51) hV dX10_hold_51 (zc_k143 zc_s143) (zc_pos zc_s143 rfl) rfl (by omega) (fun σ51 eσ51 => ?_)
    have hσ51 : zc_T σ51 := zc_ua143 eσ51 hσ zc_s143 (by omega)
    have hFσ51 := zc_Fa eσ51 zc_s143 rfl hFσ
    refine zr_goto (pc := 52) hV 68 dX10_hold_52 (by decide) ?_
    show V 68 [some (ZR 141), some (ZI what), some (ZI i), some (ZI v)] [] 284 σ51
    exact zr_vret (pc := 68) hV dX10_hold_68 rfl rfl ⟨rfl, hσ51, hFσ51, trivial⟩
  by_cases c5 : what = 2
  · refine zr_eqI (V := V) 2 c5 ?_
    refine zr_tableIn (pc := 1) hV 55 dX10_hold_1 ⟨by decide, by decide⟩ (by decide) (by decide) rfl (by decide) ?_
    show V 55 [some (ZR 141), some (ZI what), some (ZI i), some (ZI v)] [] 284 σ
    refine zr_aload_n (pc := 55) hV dX10_hold_55 rfl rfl ?_
    refine zr_iload_n (pc := 56) hV dX10_hold_56 rfl rfl ?_
    refine zr_putI (pc := 57) hV 3 dX10_hold_57 fX10_35 rfl rfl rfl (zc_k141 zc_s141) (zc_pos zc_s141 rfl) (fun σ57 eσ57 => ?_)
    have hσ57 : zc_T σ57 := zc_u141_3 eσ57 hσ zc_s141 (by omega)
    have hFσ57 := zc_Fw eσ57 zc_s141 rfl hFσ
    refine zr_goto (pc := 60) hV 68 dX10_hold_60 (by decide) ?_
    show V 68 [some (ZR 141), some (ZI what), some (ZI i), some (ZI v)] [] 284 σ57
    exact zr_vret (pc := 68) hV dX10_hold_68 rfl rfl ⟨rfl, hσ57, hFσ57, trivial⟩
  refine zr_tableOut (pc := 1) hV 63 dX10_hold_1 (by omega) (by omega) (by decide) ?_
  show V 63 [some (ZR 141), some (ZI what), some (ZI i), some (ZI v)] [] 284 σ
  refine zr_aload_n (pc := 63) hV dX10_hold_63 rfl rfl ?_
  refine zr_iload_n (pc := 64) hV dX10_hold_64 rfl rfl ?_
  refine zr_putI (pc := 65) hV 4 dX10_hold_65 fX10_39 rfl rfl rfl (zc_k141 zc_s141) (zc_pos zc_s141 rfl) (fun σ65 eσ65 => ?_)
  have hσ65 : zc_T σ65 := zc_u141_4 eσ65 hσ zc_s141 (by omega)
  have hFσ65 := zc_Fw eσ65 zc_s141 rfl hFσ
  show V 68 [some (ZR 141), some (ZI what), some (ZI i), some (ZI v)] [] 284 σ65
  exact zr_vret (pc := 68) hV dX10_hold_68 rfl rfl ⟨rfl, hσ65, hFσ65, trivial⟩
set_option maxHeartbeats 800000 in
theorem c_X10_undoChange {σ : zq_S} (hσ : zc_T σ) (where_ : Int) (was : Int) (q0 : zq_in where_) (q1 : zq_in was) : zq_C zc_w yX10_undoChange cX10_undoChange 3 (none) 0 0 284 284 [ZR 141, ZI where_, ZI was] σ (zq_pv (fun τ => zc_T τ ∧ zc_Fr [(142, -1), (143, -1)] σ τ ∧ (True))) := by
  refine zq_C_of (by decide) (Nat.le_refl _) (Nat.le_of_ble_eq_true rfl) [some (ZR 141), some (ZI where_), some (ZI was)] rfl (fun V hV => ?_)
  have hFσ := zc_Fr_rf [(142, -1), (143, -1)] σ
  show V 0 [some (ZR 141), some (ZI where_), some (ZI was)] [] 284 σ
  refine zr_iload_n (pc := 0) hV dX10_undoChange_0 rfl rfl ?_
  refine zr_bipush (pc := 1) hV 8 dX10_undoChange_1 (by decide) ?_
  refine zr_icmp_ge (pc := 3) hV 19 dX10_undoChange_3 (by decide) (by omega) ⟨by decide, by decide⟩ (fun c1 => ?_) (fun c1 => ?_)
  · show V 19 [some (ZR 141), some (ZI where_), some (ZI was)] [] 284 σ
    refine zr_aload_n (pc := 19) hV dX10_undoChange_19 rfl rfl ?_
    refine zr_getR (pc := 20) hV 2 143 dX10_undoChange_20 fX10_15 rfl rfl (zc_k141 zc_s141) (zc_pos zc_s141 rfl) (zc_g141_2 hσ zc_s141) (by decide) ?_
    refine zr_iload_n (pc := 23) hV dX10_undoChange_23 rfl rfl ?_
    refine zr_bipush (pc := 24) hV 8 dX10_undoChange_24 (by decide) ?_
    refine zr_isub (pc := 26) hV dX10_undoChange_26 ?_
    refine zr_sipush (pc := 27) hV 255 dX10_undoChange_27 (by decide) ?_
    refine zr_iand (pc := 30) hV dX10_undoChange_30 ?_
    have t2 := zq_and_mask (where_ - 8) 8 255 256 (by decide) (by decide) (by decide)
    refine zr_iload_n (pc := 31) hV dX10_undoChange_31 rfl rfl ?_
    refine zr_iast (pc := 32) hV dX10_undoChange_32 (zc_k143 zc_s143) (zc_pos zc_s143 rfl) rfl (by omega) (fun σ32 eσ32 => ?_)
    have hσ32 : zc_T σ32 := zc_ua143 eσ32 hσ zc_s143 (by omega)
    have hFσ32 := zc_Fa eσ32 zc_s143 rfl hFσ
    show V 33 [some (ZR 141), some (ZI where_), some (ZI was)] [] 284 σ32
    exact zr_vret (pc := 33) hV dX10_undoChange_33 rfl rfl ⟨rfl, hσ32, hFσ32, trivial⟩
  · show V 6 [some (ZR 141), some (ZI where_), some (ZI was)] [] 284 σ
    refine zr_aload_n (pc := 6) hV dX10_undoChange_6 rfl rfl ?_
    refine zr_getR (pc := 7) hV 1 142 dX10_undoChange_7 fX10_11 rfl rfl (zc_k141 zc_s141) (zc_pos zc_s141 rfl) (zc_g141_1 hσ zc_s141) (by decide) ?_
    refine zr_iload_n (pc := 10) hV dX10_undoChange_10 rfl rfl ?_
    refine zr_bipush (pc := 11) hV 7 dX10_undoChange_11 (by decide) ?_
    refine zr_iand (pc := 13) hV dX10_undoChange_13 ?_
    have t3 := zq_and_mask where_ 3 7 8 (by decide) (by decide) (by decide)
    refine zr_iload_n (pc := 14) hV dX10_undoChange_14 rfl rfl ?_
    refine zr_iast (pc := 15) hV dX10_undoChange_15 (zc_k142 zc_s142) (zc_pos zc_s142 rfl) rfl (by omega) (fun σ15 eσ15 => ?_)
    have hσ15 : zc_T σ15 := zc_ua142 eσ15 hσ zc_s142 (by omega)
    have hFσ15 := zc_Fa eσ15 zc_s142 rfl hFσ
    refine zr_goto (pc := 16) hV 33 dX10_undoChange_16 (by decide) ?_
    show V 33 [some (ZR 141), some (ZI where_), some (ZI was)] [] 284 σ15
    exact zr_vret (pc := 33) hV dX10_undoChange_33 rfl rfl ⟨rfl, hσ15, hFσ15, trivial⟩
set_option maxHeartbeats 800000 in
theorem c_X10_perform {σ : zq_S} (hσ : zc_T σ) (order : Int) (korder : zc_kd order = 4) (bits : Int) (q0 : zq_in bits) : zq_C zc_w yX10_perform cX10_perform 4 (none) 4 88 284 284 [ZR 141, ZR order, ZI bits] σ (zq_pv (fun τ => zc_T τ ∧ zc_Fr [(141, 3), (141, 4), (141, 6), (142, -1), (143, -1), (144, -1), (145, -1), (146, -1)] σ τ ∧ (True))) := by
  refine zq_C_of (by decide) (Nat.le_refl _) (Nat.le_of_ble_eq_true rfl) [some (ZR 141), some (ZR order), some (ZI bits), none] rfl (fun V hV => ?_)
  have poorder := zc_pos korder rfl
  have hFσ := zc_Fr_rf [(141, 3), (141, 4), (141, 6), (142, -1), (143, -1), (144, -1), (145, -1), (146, -1)] σ
  show V 0 [some (ZR 141), some (ZR order), some (ZI bits), none] [] 284 σ
  refine zr_iconst (pc := 0) hV 0 dX10_perform_0 rfl ?_
  refine zr_istore_n (pc := 1) hV [some (ZR 141), some (ZR order), some (ZI bits), some (ZI 0)] dX10_perform_1 rfl (by decide) rfl rfl ?_
  have L2 : ∀ (fuel : Nat) (x3_2 : Int) (σ_2 : zq_S), (0 ≤ x3_2 ∧ x3_2 ≤ 4) → (zc_T σ_2) → (zc_Fr [(141, 3), (141, 4), (141, 6), (142, -1), (143, -1), (144, -1), (145, -1), (146, -1)] σ σ_2) → 4 - x3_2 < (fuel : Int) → V 2 [some (ZR 141), some (ZR order), some (ZI bits), some (ZI x3_2)] [] 284 σ_2 := by
    intro fuel
    induction fuel with
    | zero =>
      intro x3_2 σ_2 hx3_2 hσ_2 hFσ_2 hm2
      exfalso; omega
    | succ fuel ih =>
      intro x3_2 σ_2 hx3_2 hσ_2 hFσ_2 hm2
      have ih2 := ih
      show V 2 [some (ZR 141), some (ZR order), some (ZI bits), some (ZI x3_2)] [] 284 σ_2
      refine zr_iload_n (pc := 2) hV dX10_perform_2 rfl rfl ?_
      refine zr_iconst (pc := 3) hV 3 dX10_perform_3 rfl ?_
      refine zr_icmp_gt (pc := 4) hV 25 dX10_perform_4 (by decide) (by omega) ⟨by decide, by decide⟩ (fun c1 => ?_) (fun c1 => ?_)
      · show V 25 [some (ZR 141), some (ZR order), some (ZI bits), some (ZI x3_2)] [] 284 σ_2
        refine zr_aload_n (pc := 25) hV dX10_perform_25 rfl rfl ?_
        refine zr_iconst (pc := 26) hV 0 dX10_perform_26 rfl ?_
        refine zr_putI (pc := 27) hV 6 dX10_perform_27 fX10_59 rfl rfl rfl (zc_k141 zc_s141) (zc_pos zc_s141 rfl) (fun σ27 eσ27 => ?_)
        have hσ27 : zc_T σ27 := zc_u141_6 eσ27 hσ_2 zc_s141 (by omega)
        have hFσ27 := zc_Fw eσ27 zc_s141 rfl hFσ_2
        refine zr_aload_n (pc := 30) hV dX10_perform_30 rfl rfl ?_
        refine zr_aload_n (pc := 31) hV dX10_perform_31 rfl rfl ?_
        refine zr_getI (pc := 32) hV 4 dX10_perform_32 fX10_39 rfl rfl (zc_k141 zc_s141) (zc_pos zc_s141 rfl) ?_
        have t2 := zc_g141_4 hσ27 zc_s141
        have t3 : σ27 141 4 = σ_2 141 4 := by rw [eσ27]; exact zq_up_ne (by omega)
        refine zr_iconst (pc := 35) hV 1 dX10_perform_35 rfl ?_
        refine zr_iadd (pc := 36) hV dX10_perform_36 ?_
        refine zr_any (pc := 37) hV (fun y37 hy37 _ => ?_)
        refine zr_bipush (pc := 37) hV 63 dX10_perform_37 (by decide) ?_
        refine zr_iand (pc := 39) hV dX10_perform_39 ?_
        have t4 := zq_and_mask y37 6 63 64 (by decide) (by decide) (by decide)
        refine zr_putI (pc := 40) hV 4 dX10_perform_40 fX10_39 rfl rfl rfl (zc_k141 zc_s141) (zc_pos zc_s141 rfl) (fun σ40 eσ40 => ?_)
        have hσ40 : zc_T σ40 := zc_u141_4 eσ40 hσ27 zc_s141 (by omega)
        have hFσ40 := zc_Fw eσ40 zc_s141 rfl hFσ27
        refine zr_aload_n (pc := 43) hV dX10_perform_43 rfl rfl ?_
        refine zr_aload_n (pc := 44) hV dX10_perform_44 rfl rfl ?_
        refine zr_callVv (pc := 45) hV [ZR 141] (st := []) (c_X3_doOn_W (σ := σ40) hσ40 order korder) dX10_perform_45 mX10_66 (zc_k4 korder) (zc_pos korder rfl) (by decide) (Nat.le_of_ble_eq_true rfl) (Nat.le_refl _) (fun σ45 pσ45 => ?_)
        obtain ⟨hσ45, hfσ45, pσ45⟩ := pσ45
        have hFσ45 := zc_Fc hfσ45 rfl hFσ40
        exact zr_vret (pc := 48) hV dX10_perform_48 rfl rfl ⟨rfl, hσ45, hFσ45, trivial⟩
      · show V 7 [some (ZR 141), some (ZR order), some (ZI bits), some (ZI x3_2)] [] 284 σ_2
        refine zr_aload_n (pc := 7) hV dX10_perform_7 rfl rfl ?_
        refine zr_getR (pc := 8) hV 5 144 dX10_perform_8 fX10_18 rfl rfl (zc_k141 zc_s141) (zc_pos zc_s141 rfl) (zc_g141_5 hσ_2 zc_s141) (by decide) ?_
        refine zr_iload_n (pc := 11) hV dX10_perform_11 rfl rfl ?_
        refine zr_aload_n (pc := 12) hV dX10_perform_12 rfl rfl ?_
        refine zr_iload_n (pc := 13) hV dX10_perform_13 rfl rfl ?_
        refine zr_iload_n (pc := 14) hV dX10_perform_14 rfl rfl ?_
        refine zr_callVp (pc := 15) hV [ZI bits, ZI x3_2] (st := [ZI x3_2, ZR 144]) (c_X3_fieldOf (σ := σ_2) hσ_2 order korder bits x3_2 (by omega) (by omega)) dX10_perform_15 mX10_62 (zc_k4 korder) (zc_pos korder rfl) (by decide) (Nat.le_of_ble_eq_true rfl) (Nat.le_refl _) (fun r15 hr15 pr15 => ?_)
        refine zr_iast (pc := 18) hV dX10_perform_18 (zc_k144 zc_s144) (zc_pos zc_s144 rfl) rfl (by omega) (fun σ18 eσ18 => ?_)
        have hσ18 : zc_T σ18 := zc_ua144 eσ18 hσ_2 zc_s144 (by omega)
        have hFσ18 := zc_Fa eσ18 zc_s144 rfl hFσ_2
        refine zr_iinc (pc := 19) hV [some (ZR 141), some (ZR order), some (ZI bits), some (ZI (x3_2 + 1))] (x3_2 + 1) dX10_perform_19 rfl rfl (by decide) rfl rfl ?_
        refine zr_goto (pc := 22) hV 2 dX10_perform_22 (by decide) ?_
        exact ih2 (x3_2 + 1) σ18 (by omega) hσ18 hFσ18 (by omega)
  exact L2 (4 - (0 : Int) + 1 : Int).toNat 0 σ (by omega) hσ hFσ (by omega)
set_option maxHeartbeats 800000 in
theorem c_X10_perform_t {σ : zq_S} (hσ : zc_T σ) (order : Int) (korder : zc_kd order = 4) (bits : Int) (q0 : zq_in bits) : zq_C zc_w yX10_perform cX10_perform 4 (none) 4 88 284 284 [ZR 147, ZR order, ZI bits] σ (zq_pv (fun τ => zc_T τ ∧ zc_Fr [(147, 3), (147, 4), (147, 6), (148, -1), (149, -1), (150, -1), (151, -1), (152, -1)] σ τ ∧ (True))) := by
  refine zq_C_of (by decide) (Nat.le_refl _) (Nat.le_of_ble_eq_true rfl) [some (ZR 147), some (ZR order), some (ZI bits), none] rfl (fun V hV => ?_)
  have poorder := zc_pos korder rfl
  have hFσ := zc_Fr_rf [(147, 3), (147, 4), (147, 6), (148, -1), (149, -1), (150, -1), (151, -1), (152, -1)] σ
  show V 0 [some (ZR 147), some (ZR order), some (ZI bits), none] [] 284 σ
  refine zr_iconst (pc := 0) hV 0 dX10_perform_0 rfl ?_
  refine zr_istore_n (pc := 1) hV [some (ZR 147), some (ZR order), some (ZI bits), some (ZI 0)] dX10_perform_1 rfl (by decide) rfl rfl ?_
  have L2 : ∀ (fuel : Nat) (x3_2 : Int) (σ_2 : zq_S), (0 ≤ x3_2 ∧ x3_2 ≤ 4) → (zc_T σ_2) → (zc_Fr [(147, 3), (147, 4), (147, 6), (148, -1), (149, -1), (150, -1), (151, -1), (152, -1)] σ σ_2) → 4 - x3_2 < (fuel : Int) → V 2 [some (ZR 147), some (ZR order), some (ZI bits), some (ZI x3_2)] [] 284 σ_2 := by
    intro fuel
    induction fuel with
    | zero =>
      intro x3_2 σ_2 hx3_2 hσ_2 hFσ_2 hm2
      exfalso; omega
    | succ fuel ih =>
      intro x3_2 σ_2 hx3_2 hσ_2 hFσ_2 hm2
      have ih2 := ih
      show V 2 [some (ZR 147), some (ZR order), some (ZI bits), some (ZI x3_2)] [] 284 σ_2
      refine zr_iload_n (pc := 2) hV dX10_perform_2 rfl rfl ?_
      refine zr_iconst (pc := 3) hV 3 dX10_perform_3 rfl ?_
      refine zr_icmp_gt (pc := 4) hV 25 dX10_perform_4 (by decide) (by omega) ⟨by decide, by decide⟩ (fun c1 => ?_) (fun c1 => ?_)
      · show V 25 [some (ZR 147), some (ZR order), some (ZI bits), some (ZI x3_2)] [] 284 σ_2
        refine zr_aload_n (pc := 25) hV dX10_perform_25 rfl rfl ?_
        refine zr_iconst (pc := 26) hV 0 dX10_perform_26 rfl ?_
        refine zr_putI (pc := 27) hV 6 dX10_perform_27 fX10_59 rfl rfl rfl (zc_k147 zc_s147) (zc_pos zc_s147 rfl) (fun σ27 eσ27 => ?_)
        have hσ27 : zc_T σ27 := zc_u147_6 eσ27 hσ_2 zc_s147 (by omega)
        have hFσ27 := zc_Fw eσ27 zc_s147 rfl hFσ_2
        refine zr_aload_n (pc := 30) hV dX10_perform_30 rfl rfl ?_
        refine zr_aload_n (pc := 31) hV dX10_perform_31 rfl rfl ?_
        refine zr_getI (pc := 32) hV 4 dX10_perform_32 fX10_39 rfl rfl (zc_k147 zc_s147) (zc_pos zc_s147 rfl) ?_
        have t2 := zc_g147_4 hσ27 zc_s147
        have t3 : σ27 147 4 = σ_2 147 4 := by rw [eσ27]; exact zq_up_ne (by omega)
        refine zr_iconst (pc := 35) hV 1 dX10_perform_35 rfl ?_
        refine zr_iadd (pc := 36) hV dX10_perform_36 ?_
        refine zr_any (pc := 37) hV (fun y37 hy37 _ => ?_)
        refine zr_bipush (pc := 37) hV 63 dX10_perform_37 (by decide) ?_
        refine zr_iand (pc := 39) hV dX10_perform_39 ?_
        have t4 := zq_and_mask y37 6 63 64 (by decide) (by decide) (by decide)
        refine zr_putI (pc := 40) hV 4 dX10_perform_40 fX10_39 rfl rfl rfl (zc_k147 zc_s147) (zc_pos zc_s147 rfl) (fun σ40 eσ40 => ?_)
        have hσ40 : zc_T σ40 := zc_u147_4 eσ40 hσ27 zc_s147 (by omega)
        have hFσ40 := zc_Fw eσ40 zc_s147 rfl hFσ27
        refine zr_aload_n (pc := 43) hV dX10_perform_43 rfl rfl ?_
        refine zr_aload_n (pc := 44) hV dX10_perform_44 rfl rfl ?_
        refine zr_callVv (pc := 45) hV [ZR 147] (st := []) (c_X3_doOn_T (σ := σ40) hσ40 order korder) dX10_perform_45 mX10_66 (zc_k4 korder) (zc_pos korder rfl) (by decide) (Nat.le_of_ble_eq_true rfl) (Nat.le_refl _) (fun σ45 pσ45 => ?_)
        obtain ⟨hσ45, hfσ45, pσ45⟩ := pσ45
        have hFσ45 := zc_Fc hfσ45 rfl hFσ40
        exact zr_vret (pc := 48) hV dX10_perform_48 rfl rfl ⟨rfl, hσ45, hFσ45, trivial⟩
      · show V 7 [some (ZR 147), some (ZR order), some (ZI bits), some (ZI x3_2)] [] 284 σ_2
        refine zr_aload_n (pc := 7) hV dX10_perform_7 rfl rfl ?_
        refine zr_getR (pc := 8) hV 5 150 dX10_perform_8 fX10_18 rfl rfl (zc_k147 zc_s147) (zc_pos zc_s147 rfl) (zc_g147_5 hσ_2 zc_s147) (by decide) ?_
        refine zr_iload_n (pc := 11) hV dX10_perform_11 rfl rfl ?_
        refine zr_aload_n (pc := 12) hV dX10_perform_12 rfl rfl ?_
        refine zr_iload_n (pc := 13) hV dX10_perform_13 rfl rfl ?_
        refine zr_iload_n (pc := 14) hV dX10_perform_14 rfl rfl ?_
        refine zr_callVp (pc := 15) hV [ZI bits, ZI x3_2] (st := [ZI x3_2, ZR 150]) (c_X3_fieldOf (σ := σ_2) hσ_2 order korder bits x3_2 (by omega) (by omega)) dX10_perform_15 mX10_62 (zc_k4 korder) (zc_pos korder rfl) (by decide) (Nat.le_of_ble_eq_true rfl) (Nat.le_refl _) (fun r15 hr15 pr15 => ?_)
        refine zr_iast (pc := 18) hV dX10_perform_18 (zc_k150 zc_s150) (zc_pos zc_s150 rfl) rfl (by omega) (fun σ18 eσ18 => ?_)
        have hσ18 : zc_T σ18 := zc_ua150 eσ18 hσ_2 zc_s150 (by omega)
        have hFσ18 := zc_Fa eσ18 zc_s150 rfl hFσ_2
        refine zr_iinc (pc := 19) hV [some (ZR 147), some (ZR order), some (ZI bits), some (ZI (x3_2 + 1))] (x3_2 + 1) dX10_perform_19 rfl rfl (by decide) rfl rfl ?_
        refine zr_goto (pc := 22) hV 2 dX10_perform_22 (by decide) ?_
        exact ih2 (x3_2 + 1) σ18 (by omega) hσ18 hFσ18 (by omega)
  exact L2 (4 - (0 : Int) + 1 : Int).toNat 0 σ (by omega) hσ hFσ (by omega)
set_option maxHeartbeats 800000 in
theorem c_X10_storesOf {σ : zq_S} (hσ : zc_T σ) (letters : Int) (q0 : zq_in letters) : zq_C zc_w yX10_storesOf cX10_storesOf 4 (some .int) 0 0 284 284 [ZR 141, ZI letters] σ (zq_pp σ (fun r => True)) := by
  refine zq_C_of (by decide) (Nat.le_refl _) (Nat.le_of_ble_eq_true rfl) [some (ZR 141), some (ZI letters), none, none] rfl (fun V hV => ?_)
  show V 0 [some (ZR 141), some (ZI letters), none, none] [] 284 σ
  refine zr_iconst (pc := 0) hV 0 dX10_storesOf_0 rfl ?_
  refine zr_istore_n (pc := 1) hV [some (ZR 141), some (ZI letters), some (ZI 0), none] dX10_storesOf_1 rfl (by decide) rfl rfl ?_
  refine zr_iconst (pc := 2) hV 0 dX10_storesOf_2 rfl ?_
  refine zr_istore_n (pc := 3) hV [some (ZR 141), some (ZI letters), some (ZI 0), some (ZI 0)] dX10_storesOf_3 rfl (by decide) rfl rfl ?_
  have L4 : ∀ (fuel : Nat) (x2_4 : Int) (x3_4 : Int), (0 ≤ x2_4 ∧ x2_4 ≤ 255) → (0 ≤ x3_4 ∧ x3_4 ≤ 3) → 3 - x3_4 < (fuel : Int) → V 4 [some (ZR 141), some (ZI letters), some (ZI x2_4), some (ZI x3_4)] [] 284 σ := by
    intro fuel
    induction fuel with
    | zero =>
      intro x2_4 x3_4 hx2_4 hx3_4 hm4
      exfalso; omega
    | succ fuel ih =>
      intro x2_4 x3_4 hx2_4 hx3_4 hm4
      have ih4 := ih
      show V 4 [some (ZR 141), some (ZI letters), some (ZI x2_4), some (ZI x3_4)] [] 284 σ
      refine zr_iload_n (pc := 4) hV dX10_storesOf_4 rfl rfl ?_
      refine zr_iconst (pc := 5) hV 2 dX10_storesOf_5 rfl ?_
      refine zr_icmp_gt (pc := 6) hV 37 dX10_storesOf_6 (by decide) (by omega) ⟨by decide, by decide⟩ (fun c1 => ?_) (fun c1 => ?_)
      · show V 37 [some (ZR 141), some (ZI letters), some (ZI x2_4), some (ZI x3_4)] [] 284 σ
        refine zr_iload_n (pc := 37) hV dX10_storesOf_37 rfl rfl ?_
        refine zr_iload_n (pc := 38) hV dX10_storesOf_38 rfl rfl ?_
        refine zr_bipush (pc := 39) hV 8 dX10_storesOf_39 (by decide) ?_
        refine zr_iand (pc := 41) hV dX10_storesOf_41 ?_
        have t2 := zq_and_nnR (x := letters) (y := 8) (by omega)
        refine zr_if_ne (pc := 42) hV 49 dX10_storesOf_42 (by decide) (by omega) (fun c3 => ?_) (fun c3 => ?_)
        · show V 49 [some (ZR 141), some (ZI letters), some (ZI x2_4), some (ZI x3_4)] [ZI x2_4] 284 σ
          refine zr_sipush (pc := 49) hV 256 dX10_storesOf_49 (by decide) ?_
          show V 52 [some (ZR 141), some (ZI letters), some (ZI x2_4), some (ZI x3_4)] [ZI 256, ZI x2_4] 284 σ
          refine zr_ior (pc := 52) hV dX10_storesOf_52 ?_
          have t4 := zq_or_b (x := x2_4) (y := 256) 9 512 (by decide) (by decide) (by omega) (by omega)
          refine zr_istore_n (pc := 53) hV [some (ZR 141), some (ZI letters), some (ZI (zq_or x2_4 256)), some (ZI x3_4)] dX10_storesOf_53 rfl (by decide) rfl rfl ?_
          refine zr_iload_n (pc := 54) hV dX10_storesOf_54 rfl rfl ?_
          refine zr_iload_n (pc := 55) hV dX10_storesOf_55 rfl rfl ?_
          refine zr_bipush (pc := 56) hV 32 dX10_storesOf_56 (by decide) ?_
          refine zr_iand (pc := 58) hV dX10_storesOf_58 ?_
          have t5 := zq_and_nnR (x := letters) (y := 32) (by omega)
          refine zr_if_ne (pc := 59) hV 66 dX10_storesOf_59 (by decide) (by omega) (fun c6 => ?_) (fun c6 => ?_)
          · show V 66 [some (ZR 141), some (ZI letters), some (ZI (zq_or x2_4 256)), some (ZI x3_4)] [ZI (zq_or x2_4 256)] 284 σ
            refine zr_sipush (pc := 66) hV 512 dX10_storesOf_66 (by decide) ?_
            show V 69 [some (ZR 141), some (ZI letters), some (ZI (zq_or x2_4 256)), some (ZI x3_4)] [ZI 512, ZI (zq_or x2_4 256)] 284 σ
            refine zr_ior (pc := 69) hV dX10_storesOf_69 ?_
            have t7 := zq_or_b (x := zq_or x2_4 256) (y := 512) 10 1024 (by decide) (by decide) (by omega) (by omega)
            exact zr_iret (pc := 70) hV dX10_storesOf_70 rfl rfl ⟨rfl, _, rfl, (by omega), trivial⟩
          · show V 62 [some (ZR 141), some (ZI letters), some (ZI (zq_or x2_4 256)), some (ZI x3_4)] [ZI (zq_or x2_4 256)] 284 σ
            refine zr_iconst (pc := 62) hV 0 dX10_storesOf_62 rfl ?_
            refine zr_goto (pc := 63) hV 69 dX10_storesOf_63 (by decide) ?_
            show V 69 [some (ZR 141), some (ZI letters), some (ZI (zq_or x2_4 256)), some (ZI x3_4)] [ZI 0, ZI (zq_or x2_4 256)] 284 σ
            refine zr_ior (pc := 69) hV dX10_storesOf_69 ?_
            have t8 := zq_or_b (x := zq_or x2_4 256) (y := 0) 9 512 (by decide) (by decide) (by omega) (by omega)
            exact zr_iret (pc := 70) hV dX10_storesOf_70 rfl rfl ⟨rfl, _, rfl, (by omega), trivial⟩
        · show V 45 [some (ZR 141), some (ZI letters), some (ZI x2_4), some (ZI x3_4)] [ZI x2_4] 284 σ
          refine zr_iconst (pc := 45) hV 0 dX10_storesOf_45 rfl ?_
          refine zr_goto (pc := 46) hV 52 dX10_storesOf_46 (by decide) ?_
          show V 52 [some (ZR 141), some (ZI letters), some (ZI x2_4), some (ZI x3_4)] [ZI 0, ZI x2_4] 284 σ
          refine zr_ior (pc := 52) hV dX10_storesOf_52 ?_
          have t9 := zq_or_b (x := x2_4) (y := 0) 8 256 (by decide) (by decide) (by omega) (by omega)
          refine zr_istore_n (pc := 53) hV [some (ZR 141), some (ZI letters), some (ZI (zq_or x2_4 0)), some (ZI x3_4)] dX10_storesOf_53 rfl (by decide) rfl rfl ?_
          refine zr_iload_n (pc := 54) hV dX10_storesOf_54 rfl rfl ?_
          refine zr_iload_n (pc := 55) hV dX10_storesOf_55 rfl rfl ?_
          refine zr_bipush (pc := 56) hV 32 dX10_storesOf_56 (by decide) ?_
          refine zr_iand (pc := 58) hV dX10_storesOf_58 ?_
          have t10 := zq_and_nnR (x := letters) (y := 32) (by omega)
          refine zr_if_ne (pc := 59) hV 66 dX10_storesOf_59 (by decide) (by omega) (fun c11 => ?_) (fun c11 => ?_)
          · show V 66 [some (ZR 141), some (ZI letters), some (ZI (zq_or x2_4 0)), some (ZI x3_4)] [ZI (zq_or x2_4 0)] 284 σ
            refine zr_sipush (pc := 66) hV 512 dX10_storesOf_66 (by decide) ?_
            show V 69 [some (ZR 141), some (ZI letters), some (ZI (zq_or x2_4 0)), some (ZI x3_4)] [ZI 512, ZI (zq_or x2_4 0)] 284 σ
            refine zr_ior (pc := 69) hV dX10_storesOf_69 ?_
            have t12 := zq_or_b (x := zq_or x2_4 0) (y := 512) 10 1024 (by decide) (by decide) (by omega) (by omega)
            exact zr_iret (pc := 70) hV dX10_storesOf_70 rfl rfl ⟨rfl, _, rfl, (by omega), trivial⟩
          · show V 62 [some (ZR 141), some (ZI letters), some (ZI (zq_or x2_4 0)), some (ZI x3_4)] [ZI (zq_or x2_4 0)] 284 σ
            refine zr_iconst (pc := 62) hV 0 dX10_storesOf_62 rfl ?_
            refine zr_goto (pc := 63) hV 69 dX10_storesOf_63 (by decide) ?_
            show V 69 [some (ZR 141), some (ZI letters), some (ZI (zq_or x2_4 0)), some (ZI x3_4)] [ZI 0, ZI (zq_or x2_4 0)] 284 σ
            refine zr_ior (pc := 69) hV dX10_storesOf_69 ?_
            have t13 := zq_or_b (x := zq_or x2_4 0) (y := 0) 8 256 (by decide) (by decide) (by omega) (by omega)
            exact zr_iret (pc := 70) hV dX10_storesOf_70 rfl rfl ⟨rfl, _, rfl, (by omega), trivial⟩
      · show V 9 [some (ZR 141), some (ZI letters), some (ZI x2_4), some (ZI x3_4)] [] 284 σ
        refine zr_iload_n (pc := 9) hV dX10_storesOf_9 rfl rfl ?_
        refine zr_iconst (pc := 10) hV 1 dX10_storesOf_10 rfl ?_
        refine zr_iload_n (pc := 11) hV dX10_storesOf_11 rfl rfl ?_
        refine zr_ishl (pc := 12) hV dX10_storesOf_12 ?_
        have t14 := zx_shl_one (y := x3_4) 2 4 (by decide) (by decide) (by omega)
        refine zr_iand (pc := 13) hV dX10_storesOf_13 ?_
        have t15 := zq_and_nnR (x := letters) (y := zq_shl 1 x3_4) (by omega)
        refine zr_if_eq (pc := 14) hV 31 dX10_storesOf_14 (by decide) (by omega) (fun c16 => ?_) (fun c16 => ?_)
        · show V 31 [some (ZR 141), some (ZI letters), some (ZI x2_4), some (ZI x3_4)] [] 284 σ
          refine zr_iinc (pc := 31) hV [some (ZR 141), some (ZI letters), some (ZI x2_4), some (ZI (x3_4 + 1))] (x3_4 + 1) dX10_storesOf_31 rfl rfl (by decide) rfl rfl ?_
          refine zr_goto (pc := 34) hV 4 dX10_storesOf_34 (by decide) ?_
          exact ih4 x2_4 (x3_4 + 1) (by omega) (by omega) (by omega)
        · show V 17 [some (ZR 141), some (ZI letters), some (ZI x2_4), some (ZI x3_4)] [] 284 σ
          refine zr_iload_n (pc := 17) hV dX10_storesOf_17 rfl rfl ?_
          refine zr_iconst (pc := 18) hV 1 dX10_storesOf_18 rfl ?_
          refine zr_aload_n (pc := 19) hV dX10_storesOf_19 rfl rfl ?_
          refine zr_getR (pc := 20) hV 5 144 dX10_storesOf_20 fX10_18 rfl rfl (zc_k141 zc_s141) (zc_pos zc_s141 rfl) (zc_g141_5 hσ zc_s141) (by decide) ?_
          refine zr_iload_n (pc := 23) hV dX10_storesOf_23 rfl rfl ?_
          refine zr_iald (pc := 24) hV dX10_storesOf_24 (zc_k144 zc_s144) (zc_pos zc_s144 rfl) rfl (by omega) ?_
          have t17 := zc_ga144 hσ zc_s144 x3_4
          refine zr_bipush (pc := 25) hV 7 dX10_storesOf_25 (by decide) ?_
          refine zr_iand (pc := 27) hV dX10_storesOf_27 ?_
          have t18 := zq_and_mask (σ 144 x3_4) 3 7 8 (by decide) (by decide) (by decide)
          refine zr_ishl (pc := 28) hV dX10_storesOf_28 ?_
          have t19 := zx_shl_one (y := zq_and (σ 144 x3_4) 7) 7 128 (by decide) (by decide) (by omega)
          refine zr_ior (pc := 29) hV dX10_storesOf_29 ?_
          have t20 := zq_or_b (x := x2_4) (y := zq_shl 1 (zq_and (σ 144 x3_4) 7)) 8 256 (by decide) (by decide) (by omega) (by omega)
          refine zr_istore_n (pc := 30) hV [some (ZR 141), some (ZI letters), some (ZI (zq_or x2_4 (zq_shl 1 (zq_and (σ 144 x3_4) 7)))), some (ZI x3_4)] dX10_storesOf_30 rfl (by decide) rfl rfl ?_
          show V 31 [some (ZR 141), some (ZI letters), some (ZI (zq_or x2_4 (zq_shl 1 (zq_and (σ 144 x3_4) 7)))), some (ZI x3_4)] [] 284 σ
          refine zr_iinc (pc := 31) hV [some (ZR 141), some (ZI letters), some (ZI (zq_or x2_4 (zq_shl 1 (zq_and (σ 144 x3_4) 7)))), some (ZI (x3_4 + 1))] (x3_4 + 1) dX10_storesOf_31 rfl rfl (by decide) rfl rfl ?_
          refine zr_goto (pc := 34) hV 4 dX10_storesOf_34 (by decide) ?_
          exact ih4 (zq_or x2_4 (zq_shl 1 (zq_and (σ 144 x3_4) 7))) (x3_4 + 1) (by omega) (by omega) (by omega)
  exact L4 (3 - (0 : Int) + 1 : Int).toNat 0 0 (by omega) (by omega) (by omega)
set_option maxHeartbeats 800000 in
theorem c_X6_forgetLatest {σ : zq_S} (hσ : zc_T σ)   : zq_C zc_w yX6_forgetLatest cX6_forgetLatest 1 (none) 0 0 284 284 [ZR 140] σ (zq_pv (fun τ => zc_T τ ∧ zc_Fr [(140, 13), (140, 14)] σ τ ∧ (True))) := by
  refine zq_C_of (by decide) (Nat.le_refl _) (Nat.le_of_ble_eq_true rfl) [some (ZR 140)] rfl (fun V hV => ?_)
  have hFσ := zc_Fr_rf [(140, 13), (140, 14)] σ
  show V 0 [some (ZR 140)] [] 284 σ
  refine zr_aload_n (pc := 0) hV dX6_forgetLatest_0 rfl rfl ?_
  refine zr_iconst (pc := 1) hV 0 dX6_forgetLatest_1 rfl ?_
  refine zr_putI (pc := 2) hV 13 dX6_forgetLatest_2 fX6_71 rfl rfl rfl (zc_k140 zc_s140) (zc_pos zc_s140 rfl) (fun σ2 eσ2 => ?_)
  have hσ2 : zc_T σ2 := zc_u140_13 eσ2 hσ zc_s140 (by omega)
  have hFσ2 := zc_Fw eσ2 zc_s140 rfl hFσ
  refine zr_aload_n (pc := 5) hV dX6_forgetLatest_5 rfl rfl ?_
  refine zr_iconst (pc := 6) hV 0 dX6_forgetLatest_6 rfl ?_
  refine zr_putI (pc := 7) hV 14 dX6_forgetLatest_7 fX6_74 rfl rfl rfl (zc_k140 zc_s140) (zc_pos zc_s140 rfl) (fun σ7 eσ7 => ?_)
  have hσ7 : zc_T σ7 := zc_u140_14 eσ7 hσ2 zc_s140 (by omega)
  have hFσ7 := zc_Fw eσ7 zc_s140 rfl hFσ2
  exact zr_vret (pc := 10) hV dX6_forgetLatest_10 rfl rfl ⟨rfl, hσ7, hFσ7, trivial⟩
set_option maxHeartbeats 800000 in
theorem c_X6_forgetPast {σ : zq_S} (hσ : zc_T σ)   : zq_C zc_w yX6_forgetPast cX6_forgetPast 1 (none) 1 20 284 284 [ZR 140] σ (zq_pv (fun τ => zc_T τ ∧ zc_Fr [(140, 5), (140, 13), (140, 14)] σ τ ∧ (True))) := by
  refine zq_C_of (by decide) (Nat.le_refl _) (Nat.le_of_ble_eq_true rfl) [some (ZR 140)] rfl (fun V hV => ?_)
  have hFσ := zc_Fr_rf [(140, 5), (140, 13), (140, 14)] σ
  show V 0 [some (ZR 140)] [] 284 σ
  refine zr_aload_n (pc := 0) hV dX6_forgetPast_0 rfl rfl ?_
  refine zr_iconst (pc := 1) hV 0 dX6_forgetPast_1 rfl ?_
  refine zr_putI (pc := 2) hV 5 dX6_forgetPast_2 fX6_65 rfl rfl rfl (zc_k140 zc_s140) (zc_pos zc_s140 rfl) (fun σ2 eσ2 => ?_)
  have hσ2 : zc_T σ2 := zc_u140_5 eσ2 hσ zc_s140 (by omega)
  have hFσ2 := zc_Fw eσ2 zc_s140 rfl hFσ
  refine zr_aload_n (pc := 5) hV dX6_forgetPast_5 rfl rfl ?_
  refine zr_callVv (pc := 6) hV [] (st := []) (c_X6_forgetLatest (σ := σ2) hσ2) dX6_forgetPast_6 mX6_68 (zc_k140 zc_s140) (zc_pos zc_s140 rfl) (by decide) (Nat.le_of_ble_eq_true rfl) (Nat.le_refl _) (fun σ6 pσ6 => ?_)
  obtain ⟨hσ6, hfσ6, pσ6⟩ := pσ6
  have hFσ6 := zc_Fc hfσ6 rfl hFσ2
  exact zr_vret (pc := 9) hV dX6_forgetPast_9 rfl rfl ⟨rfl, hσ6, hFσ6, trivial⟩
set_option maxHeartbeats 800000 in
theorem c_X6_clear {σ : zq_S} (hσ : zc_T σ)   : zq_C zc_w yX6_clear cX6_clear 2 (none) 2 43 284 284 [ZR 140] σ (zq_pv (fun τ => zc_T τ ∧ zc_Fr [(140, 5), (140, 8), (140, 9), (140, 10), (140, 11), (140, 13), (140, 14), (141, 3), (141, 4), (142, -1), (143, -1), (254, -1)] σ τ ∧ (True))) := by
  refine zq_C_of (by decide) (Nat.le_refl _) (Nat.le_of_ble_eq_true rfl) [some (ZR 140), none] rfl (fun V hV => ?_)
  have hFσ := zc_Fr_rf [(140, 5), (140, 8), (140, 9), (140, 10), (140, 11), (140, 13), (140, 14), (141, 3), (141, 4), (142, -1), (143, -1), (254, -1)] σ
  show V 0 [some (ZR 140), none] [] 284 σ
  refine zr_aload_n (pc := 0) hV dX6_clear_0 rfl rfl ?_
  refine zr_getR (pc := 1) hV 2 141 dX6_clear_1 fX6_16 rfl rfl (zc_k140 zc_s140) (zc_pos zc_s140 rfl) (zc_g140_2 hσ zc_s140) (by decide) ?_
  refine zr_callVv (pc := 4) hV [] (st := []) (c_X10_clear (σ := σ) hσ) dX6_clear_4 mX6_49 (zc_k141 zc_s141) (zc_pos zc_s141 rfl) (by decide) (Nat.le_of_ble_eq_true rfl) (Nat.le_refl _) (fun σ4 pσ4 => ?_)
  obtain ⟨hσ4, hfσ4, pσ4⟩ := pσ4
  have hFσ4 := zc_Fc hfσ4 rfl hFσ
  refine zr_iconst (pc := 7) hV 0 dX6_clear_7 rfl ?_
  refine zr_istore_n (pc := 8) hV [some (ZR 140), some (ZI 0)] dX6_clear_8 rfl (by decide) rfl rfl ?_
  have L9 : ∀ (fuel : Nat) (x1_9 : Int) (σ_9 : zq_S), (0 ≤ x1_9 ∧ x1_9 ≤ 64) → (zc_T σ_9) → (zc_Fr [(140, 5), (140, 8), (140, 9), (140, 10), (140, 11), (140, 13), (140, 14), (141, 3), (141, 4), (142, -1), (143, -1), (254, -1)] σ σ_9) → 64 - x1_9 < (fuel : Int) → V 9 [some (ZR 140), some (ZI x1_9)] [] 284 σ_9 := by
    intro fuel
    induction fuel with
    | zero =>
      intro x1_9 σ_9 hx1_9 hσ_9 hFσ_9 hm9
      exfalso; omega
    | succ fuel ih =>
      intro x1_9 σ_9 hx1_9 hσ_9 hFσ_9 hm9
      have ih9 := ih
      show V 9 [some (ZR 140), some (ZI x1_9)] [] 284 σ_9
      refine zr_iload_n (pc := 9) hV dX6_clear_9 rfl rfl ?_
      refine zr_bipush (pc := 10) hV 64 dX6_clear_10 (by decide) ?_
      refine zr_icmp_ge (pc := 12) hV 33 dX6_clear_12 (by decide) (by omega) ⟨by decide, by decide⟩ (fun c1 => ?_) (fun c1 => ?_)
      · show V 33 [some (ZR 140), some (ZI x1_9)] [] 284 σ_9
        refine zr_aload_n (pc := 33) hV dX6_clear_33 rfl rfl ?_
        refine zr_iconst (pc := 34) hV 0 dX6_clear_34 rfl ?_
        refine zr_putI (pc := 35) hV 8 dX6_clear_35 fX6_50 rfl rfl rfl (zc_k140 zc_s140) (zc_pos zc_s140 rfl) (fun σ35 eσ35 => ?_)
        have hσ35 : zc_T σ35 := zc_u140_8 eσ35 hσ_9 zc_s140 (by omega)
        have hFσ35 := zc_Fw eσ35 zc_s140 rfl hFσ_9
        refine zr_aload_n (pc := 38) hV dX6_clear_38 rfl rfl ?_
        refine zr_iconst (pc := 39) hV 0 dX6_clear_39 rfl ?_
        refine zr_putI (pc := 40) hV 9 dX6_clear_40 fX6_53 rfl rfl rfl (zc_k140 zc_s140) (zc_pos zc_s140 rfl) (fun σ40 eσ40 => ?_)
        have hσ40 : zc_T σ40 := zc_u140_9 eσ40 hσ35 zc_s140 (by omega)
        have hFσ40 := zc_Fw eσ40 zc_s140 rfl hFσ35
        refine zr_aload_n (pc := 43) hV dX6_clear_43 rfl rfl ?_
        refine zr_iconst (pc := 44) hV 0 dX6_clear_44 rfl ?_
        refine zr_putI (pc := 45) hV 10 dX6_clear_45 fX6_56 rfl rfl rfl (zc_k140 zc_s140) (zc_pos zc_s140 rfl) (fun σ45 eσ45 => ?_)
        have hσ45 : zc_T σ45 := zc_u140_10 eσ45 hσ40 zc_s140 (by omega)
        have hFσ45 := zc_Fw eσ45 zc_s140 rfl hFσ40
        refine zr_aload_n (pc := 48) hV dX6_clear_48 rfl rfl ?_
        refine zr_iconst (pc := 49) hV 0 dX6_clear_49 rfl ?_
        refine zr_putI (pc := 50) hV 11 dX6_clear_50 fX6_59 rfl rfl rfl (zc_k140 zc_s140) (zc_pos zc_s140 rfl) (fun σ50 eσ50 => ?_)
        have hσ50 : zc_T σ50 := zc_u140_11 eσ50 hσ45 zc_s140 (by omega)
        have hFσ50 := zc_Fw eσ50 zc_s140 rfl hFσ45
        refine zr_aload_n (pc := 53) hV dX6_clear_53 rfl rfl ?_
        refine zr_callVv (pc := 54) hV [] (st := []) (c_X6_forgetPast (σ := σ50) hσ50) dX6_clear_54 mX6_62 (zc_k140 zc_s140) (zc_pos zc_s140 rfl) (by decide) (Nat.le_of_ble_eq_true rfl) (Nat.le_refl _) (fun σ54 pσ54 => ?_)
        obtain ⟨hσ54, hfσ54, pσ54⟩ := pσ54
        have hFσ54 := zc_Fc hfσ54 rfl hFσ50
        exact zr_vret (pc := 57) hV dX6_clear_57 rfl rfl ⟨rfl, hσ54, hFσ54, trivial⟩
      · show V 15 [some (ZR 140), some (ZI x1_9)] [] 284 σ_9
        refine zr_aload_n (pc := 15) hV dX6_clear_15 rfl rfl ?_
        refine zr_getR (pc := 16) hV 7 254 dX6_clear_16 fX6_28 rfl rfl (zc_k140 zc_s140) (zc_pos zc_s140 rfl) (zc_g140_7 hσ_9 zc_s140) (by decide) ?_
        refine zr_iload_n (pc := 19) hV dX6_clear_19 rfl rfl ?_
        refine zr_iload_n (pc := 20) hV dX6_clear_20 rfl rfl ?_
        refine zr_iconst (pc := 21) hV 1 dX6_clear_21 rfl ?_
        refine zr_iadd (pc := 22) hV dX6_clear_22 ?_
        refine zr_bipush (pc := 23) hV 63 dX6_clear_23 (by decide) ?_
        refine zr_iand (pc := 25) hV dX6_clear_25 ?_
        have t2 := zq_and_mask (x1_9 + 1) 6 63 64 (by decide) (by decide) (by decide)
        refine zr_iast (pc := 26) hV dX6_clear_26 (zc_k254 zc_s254) (zc_pos zc_s254 rfl) rfl (by omega) (fun σ26 eσ26 => ?_)
        have hσ26 : zc_T σ26 := zc_ua254 eσ26 hσ_9 zc_s254 (by omega)
        have hFσ26 := zc_Fa eσ26 zc_s254 rfl hFσ_9
        refine zr_iinc (pc := 27) hV [some (ZR 140), some (ZI (x1_9 + 1))] (x1_9 + 1) dX6_clear_27 rfl rfl (by decide) rfl rfl ?_
        refine zr_goto (pc := 30) hV 9 dX6_clear_30 (by decide) ?_
        exact ih9 (x1_9 + 1) σ26 (by omega) hσ26 hFσ26 (by omega)
  exact L9 (64 - (0 : Int) + 1 : Int).toNat 0 σ4 (by omega) hσ4 hFσ4 (by omega)
set_option maxHeartbeats 800000 in
theorem c_X6_change {σ : zq_S} (hσ : zc_T σ) (what : Int) (i : Int) (v : Int) (q0 : zq_in what) (q1 : zq_in i) (q2 : zq_in v) : zq_C zc_w yX6_change cX6_change 4 (none) 2 40 284 284 [ZR 140, ZI what, ZI i, ZI v] σ (zq_pv (fun τ => zc_T τ ∧ zc_Fr [(140, 5), (140, 13), (140, 14), (141, 3), (141, 4), (142, -1), (143, -1)] σ τ ∧ (True))) := by
  refine zq_C_of (by decide) (Nat.le_refl _) (Nat.le_of_ble_eq_true rfl) [some (ZR 140), some (ZI what), some (ZI i), some (ZI v)] rfl (fun V hV => ?_)
  have hFσ := zc_Fr_rf [(140, 5), (140, 13), (140, 14), (141, 3), (141, 4), (142, -1), (143, -1)] σ
  show V 0 [some (ZR 140), some (ZI what), some (ZI i), some (ZI v)] [] 284 σ
  refine zr_aload_n (pc := 0) hV dX6_change_0 rfl rfl ?_
  refine zr_getR (pc := 1) hV 2 141 dX6_change_1 fX6_16 rfl rfl (zc_k140 zc_s140) (zc_pos zc_s140 rfl) (zc_g140_2 hσ zc_s140) (by decide) ?_
  refine zr_iload_n (pc := 4) hV dX6_change_4 rfl rfl ?_
  refine zr_iload_n (pc := 5) hV dX6_change_5 rfl rfl ?_
  refine zr_iload_n (pc := 6) hV dX6_change_6 rfl rfl ?_
  refine zr_callVv (pc := 7) hV [ZI what, ZI i, ZI v] (st := []) (c_X10_hold (σ := σ) hσ what i v (by omega) (by omega) (by omega)) dX6_change_7 mX6_77 (zc_k141 zc_s141) (zc_pos zc_s141 rfl) (by decide) (Nat.le_of_ble_eq_true rfl) (Nat.le_refl _) (fun σ7 pσ7 => ?_)
  obtain ⟨hσ7, hfσ7, pσ7⟩ := pσ7
  have hFσ7 := zc_Fc hfσ7 rfl hFσ
  refine zr_aload_n (pc := 10) hV dX6_change_10 rfl rfl ?_
  refine zr_callVv (pc := 11) hV [] (st := []) (c_X6_forgetPast (σ := σ7) hσ7) dX6_change_11 mX6_62 (zc_k140 zc_s140) (zc_pos zc_s140 rfl) (by decide) (Nat.le_of_ble_eq_true rfl) (Nat.le_refl _) (fun σ11 pσ11 => ?_)
  obtain ⟨hσ11, hfσ11, pσ11⟩ := pσ11
  have hFσ11 := zc_Fc hfσ11 rfl hFσ7
  exact zr_vret (pc := 14) hV dX6_change_14 rfl rfl ⟨rfl, hσ11, hFσ11, trivial⟩
set_option maxHeartbeats 800000 in
theorem c_X6_noteAhead {σ : zq_S} (hσ : zc_T σ) (row : Int) (krow : zc_kd row = 154) (place : Int) (q0 : 0 ≤ place ∧ place ≤ 63) : zq_C zc_w yX6_noteAhead cX6_noteAhead 3 (none) 0 0 284 284 [ZR 140, ZR row, ZI place] σ (zq_pv (fun τ => zc_T τ ∧ zc_Fr [(154, -1)] σ τ ∧ (True))) := by
  refine zq_C_of (by decide) (Nat.le_refl _) (Nat.le_of_ble_eq_true rfl) [some (ZR 140), some (ZR row), some (ZI place)] rfl (fun V hV => ?_)
  have porow := zc_pos krow rfl
  have hFσ := zc_Fr_rf [(154, -1)] σ
  show V 0 [some (ZR 140), some (ZR row), some (ZI place)] [] 284 σ
  refine zr_aload_n (pc := 0) hV dX6_noteAhead_0 rfl rfl ?_
  refine zr_iconst (pc := 1) hV 0 dX6_noteAhead_1 rfl ?_
  refine zr_aload_n (pc := 2) hV dX6_noteAhead_2 rfl rfl ?_
  refine zr_getR (pc := 3) hV 2 141 dX6_noteAhead_3 fX6_16 rfl rfl (zc_k140 zc_s140) (zc_pos zc_s140 rfl) (zc_g140_2 hσ zc_s140) (by decide) ?_
  refine zr_getI (pc := 6) hV 4 dX6_noteAhead_6 fX6_85 rfl rfl (zc_k141 zc_s141) (zc_pos zc_s141 rfl) ?_
  have t1 := zc_g141_4 hσ zc_s141
  refine zr_iast (pc := 9) hV dX6_noteAhead_9 (zc_k154 krow) (zc_pos krow rfl) rfl (by omega) (fun σ9 eσ9 => ?_)
  have hσ9 : zc_T σ9 := zc_ua154 eσ9 hσ krow (by omega)
  have hFσ9 := zc_Fa eσ9 krow rfl hFσ
  refine zr_aload_n (pc := 10) hV dX6_noteAhead_10 rfl rfl ?_
  refine zr_iconst (pc := 11) hV 1 dX6_noteAhead_11 rfl ?_
  refine zr_aload_n (pc := 12) hV dX6_noteAhead_12 rfl rfl ?_
  refine zr_getR (pc := 13) hV 2 141 dX6_noteAhead_13 fX6_16 rfl rfl (zc_k140 zc_s140) (zc_pos zc_s140 rfl) (zc_g140_2 hσ9 zc_s140) (by decide) ?_
  refine zr_getI (pc := 16) hV 3 dX6_noteAhead_16 fX6_112 rfl rfl (zc_k141 zc_s141) (zc_pos zc_s141 rfl) ?_
  have t2 := zc_g141_3 hσ9 zc_s141
  have t3 : σ9 141 3 = σ 141 3 := by rw [eσ9]; exact zq_up_ne (zc_dk zc_s141 krow rfl)
  refine zr_iast (pc := 19) hV dX6_noteAhead_19 (zc_k154 krow) (zc_pos krow rfl) rfl (by omega) (fun σ19 eσ19 => ?_)
  have hσ19 : zc_T σ19 := zc_ua154 eσ19 hσ9 krow (by omega)
  have hFσ19 := zc_Fa eσ19 krow rfl hFσ9
  refine zr_aload_n (pc := 20) hV dX6_noteAhead_20 rfl rfl ?_
  refine zr_iconst (pc := 21) hV 2 dX6_noteAhead_21 rfl ?_
  refine zr_aload_n (pc := 22) hV dX6_noteAhead_22 rfl rfl ?_
  refine zr_getR (pc := 23) hV 7 254 dX6_noteAhead_23 fX6_28 rfl rfl (zc_k140 zc_s140) (zc_pos zc_s140 rfl) (zc_g140_7 hσ19 zc_s140) (by decide) ?_
  refine zr_iload_n (pc := 26) hV dX6_noteAhead_26 rfl rfl ?_
  refine zr_iald (pc := 27) hV dX6_noteAhead_27 (zc_k254 zc_s254) (zc_pos zc_s254 rfl) rfl (by omega) ?_
  have t4 := zc_ga254 hσ19 zc_s254 place
  have t5 : σ19 254 place = σ9 254 place := by rw [eσ19]; exact zq_up_ne (zc_dk zc_s254 krow rfl)
  have t6 : σ9 254 place = σ 254 place := by rw [eσ9]; exact zq_up_ne (zc_dk zc_s254 krow rfl)
  refine zr_iast (pc := 28) hV dX6_noteAhead_28 (zc_k154 krow) (zc_pos krow rfl) rfl (by omega) (fun σ28 eσ28 => ?_)
  have hσ28 : zc_T σ28 := zc_ua154 eσ28 hσ19 krow (by omega)
  have hFσ28 := zc_Fa eσ28 krow rfl hFσ19
  refine zr_aload_n (pc := 29) hV dX6_noteAhead_29 rfl rfl ?_
  refine zr_iconst (pc := 30) hV 3 dX6_noteAhead_30 rfl ?_
  refine zr_aload_n (pc := 31) hV dX6_noteAhead_31 rfl rfl ?_
  refine zr_getI (pc := 32) hV 9 dX6_noteAhead_32 fX6_53 rfl rfl (zc_k140 zc_s140) (zc_pos zc_s140 rfl) ?_
  have t7 := zc_g140_9 hσ28 zc_s140
  have t8 : σ28 140 9 = σ19 140 9 := by rw [eσ28]; exact zq_up_ne (zc_dk zc_s140 krow rfl)
  have t9 : σ19 140 9 = σ9 140 9 := by rw [eσ19]; exact zq_up_ne (zc_dk zc_s140 krow rfl)
  have t10 : σ9 140 9 = σ 140 9 := by rw [eσ9]; exact zq_up_ne (zc_dk zc_s140 krow rfl)
  refine zr_iast (pc := 35) hV dX6_noteAhead_35 (zc_k154 krow) (zc_pos krow rfl) rfl (by omega) (fun σ35 eσ35 => ?_)
  have hσ35 : zc_T σ35 := zc_ua154 eσ35 hσ28 krow (by omega)
  have hFσ35 := zc_Fa eσ35 krow rfl hFσ28
  refine zr_aload_n (pc := 36) hV dX6_noteAhead_36 rfl rfl ?_
  refine zr_iconst (pc := 37) hV 4 dX6_noteAhead_37 rfl ?_
  refine zr_aload_n (pc := 38) hV dX6_noteAhead_38 rfl rfl ?_
  refine zr_getI (pc := 39) hV 10 dX6_noteAhead_39 fX6_56 rfl rfl (zc_k140 zc_s140) (zc_pos zc_s140 rfl) ?_
  have t11 := zc_g140_10 hσ35 zc_s140
  have t12 : σ35 140 10 = σ28 140 10 := by rw [eσ35]; exact zq_up_ne (zc_dk zc_s140 krow rfl)
  have t13 : σ28 140 10 = σ19 140 10 := by rw [eσ28]; exact zq_up_ne (zc_dk zc_s140 krow rfl)
  have t14 : σ19 140 10 = σ9 140 10 := by rw [eσ19]; exact zq_up_ne (zc_dk zc_s140 krow rfl)
  have t15 : σ9 140 10 = σ 140 10 := by rw [eσ9]; exact zq_up_ne (zc_dk zc_s140 krow rfl)
  refine zr_iast (pc := 42) hV dX6_noteAhead_42 (zc_k154 krow) (zc_pos krow rfl) rfl (by omega) (fun σ42 eσ42 => ?_)
  have hσ42 : zc_T σ42 := zc_ua154 eσ42 hσ35 krow (by omega)
  have hFσ42 := zc_Fa eσ42 krow rfl hFσ35
  refine zr_aload_n (pc := 43) hV dX6_noteAhead_43 rfl rfl ?_
  refine zr_iconst (pc := 44) hV 5 dX6_noteAhead_44 rfl ?_
  refine zr_aload_n (pc := 45) hV dX6_noteAhead_45 rfl rfl ?_
  refine zr_getI (pc := 46) hV 11 dX6_noteAhead_46 fX6_59 rfl rfl (zc_k140 zc_s140) (zc_pos zc_s140 rfl) ?_
  have t16 := zc_g140_11 hσ42 zc_s140
  have t17 : σ42 140 11 = σ35 140 11 := by rw [eσ42]; exact zq_up_ne (zc_dk zc_s140 krow rfl)
  have t18 : σ35 140 11 = σ28 140 11 := by rw [eσ35]; exact zq_up_ne (zc_dk zc_s140 krow rfl)
  have t19 : σ28 140 11 = σ19 140 11 := by rw [eσ28]; exact zq_up_ne (zc_dk zc_s140 krow rfl)
  have t20 : σ19 140 11 = σ9 140 11 := by rw [eσ19]; exact zq_up_ne (zc_dk zc_s140 krow rfl)
  have t21 : σ9 140 11 = σ 140 11 := by rw [eσ9]; exact zq_up_ne (zc_dk zc_s140 krow rfl)
  refine zr_iast (pc := 49) hV dX6_noteAhead_49 (zc_k154 krow) (zc_pos krow rfl) rfl (by omega) (fun σ49 eσ49 => ?_)
  have hσ49 : zc_T σ49 := zc_ua154 eσ49 hσ42 krow (by omega)
  have hFσ49 := zc_Fa eσ49 krow rfl hFσ42
  exact zr_vret (pc := 50) hV dX6_noteAhead_50 rfl rfl ⟨rfl, hσ49, hFσ49, trivial⟩
set_option maxHeartbeats 800000 in
theorem c_X6_noteChanges {σ : zq_S} (hσ : zc_T σ) (row : Int) (krow : zc_kd row = 154)  : zq_C zc_w yX6_noteChanges cX6_noteChanges 3 (none) 1 21 284 284 [ZR 140, ZR row] σ (zq_pv (fun τ => zc_T τ ∧ zc_Fr [(140, 5), (140, 6), (154, -1)] σ τ ∧ (True))) := by
  refine zq_C_of (by decide) (Nat.le_refl _) (Nat.le_of_ble_eq_true rfl) [some (ZR 140), some (ZR row), none] rfl (fun V hV => ?_)
  have porow := zc_pos krow rfl
  have hFσ := zc_Fr_rf [(140, 5), (140, 6), (154, -1)] σ
  show V 0 [some (ZR 140), some (ZR row), none] [] 284 σ
  refine zr_aload_n (pc := 0) hV dX6_noteChanges_0 rfl rfl ?_
  refine zr_bipush (pc := 1) hV 6 dX6_noteChanges_1 (by decide) ?_
  refine zr_aload_n (pc := 3) hV dX6_noteChanges_3 rfl rfl ?_
  refine zr_getR (pc := 4) hV 2 141 dX6_noteChanges_4 fX6_16 rfl rfl (zc_k140 zc_s140) (zc_pos zc_s140 rfl) (zc_g140_2 hσ zc_s140) (by decide) ?_
  refine zr_getI (pc := 7) hV 6 dX6_noteChanges_7 fX6_115 rfl rfl (zc_k141 zc_s141) (zc_pos zc_s141 rfl) ?_
  have t1 := zc_g141_6 hσ zc_s141
  refine zr_iast (pc := 10) hV dX6_noteChanges_10 (zc_k154 krow) (zc_pos krow rfl) rfl (by omega) (fun σ10 eσ10 => ?_)
  have hσ10 : zc_T σ10 := zc_ua154 eσ10 hσ krow (by omega)
  have hFσ10 := zc_Fa eσ10 krow rfl hFσ
  refine zr_iconst (pc := 11) hV 0 dX6_noteChanges_11 rfl ?_
  refine zr_istore_n (pc := 12) hV [some (ZR 140), some (ZR row), some (ZI 0)] dX6_noteChanges_12 rfl (by decide) rfl rfl ?_
  have L13 : ∀ (fuel : Nat) (x2_13 : Int) (σ_13 : zq_S), (0 ≤ x2_13 ∧ x2_13 ≤ 3) → (zc_T σ_13) → (zc_Fr [(140, 5), (140, 6), (154, -1)] σ σ_13) → 3 - x2_13 < (fuel : Int) → V 13 [some (ZR 140), some (ZR row), some (ZI x2_13)] [] 284 σ_13 := by
    intro fuel
    induction fuel with
    | zero =>
      intro x2_13 σ_13 hx2_13 hσ_13 hFσ_13 hm13
      exfalso; omega
    | succ fuel ih =>
      intro x2_13 σ_13 hx2_13 hσ_13 hFσ_13 hm13
      have ih13 := ih
      show V 13 [some (ZR 140), some (ZR row), some (ZI x2_13)] [] 284 σ_13
      refine zr_iload_n (pc := 13) hV dX6_noteChanges_13 rfl rfl ?_
      refine zr_aload_n (pc := 14) hV dX6_noteChanges_14 rfl rfl ?_
      refine zr_getR (pc := 15) hV 2 141 dX6_noteChanges_15 fX6_16 rfl rfl (zc_k140 zc_s140) (zc_pos zc_s140 rfl) (zc_g140_2 hσ_13 zc_s140) (by decide) ?_
      refine zr_getI (pc := 18) hV 6 dX6_noteChanges_18 fX6_115 rfl rfl (zc_k141 zc_s141) (zc_pos zc_s141 rfl) ?_
      have t2 := zc_g141_6 hσ_13 zc_s141
      have t3 : σ_13 141 6 = σ 141 6 := hFσ_13 _ _ (zc_out_at zc_s141 rfl)
      refine zr_icmp_ge (pc := 21) hV 66 dX6_noteChanges_21 (by decide) (by omega) (by omega) (fun c4 => ?_) (fun c4 => ?_)
      · show V 66 [some (ZR 140), some (ZR row), some (ZI x2_13)] [] 284 σ_13
        refine zr_aload_n (pc := 66) hV dX6_noteChanges_66 rfl rfl ?_
        refine zr_aload_n (pc := 67) hV dX6_noteChanges_67 rfl rfl ?_
        refine zr_getI (pc := 68) hV 6 dX6_noteChanges_68 fX6_94 rfl rfl (zc_k140 zc_s140) (zc_pos zc_s140 rfl) ?_
        have t5 := zc_g140_6 hσ_13 zc_s140
        refine zr_iconst (pc := 71) hV 1 dX6_noteChanges_71 rfl ?_
        refine zr_iadd (pc := 72) hV dX6_noteChanges_72 ?_
        refine zr_bipush (pc := 73) hV 100 dX6_noteChanges_73 (by decide) ?_
        refine zr_irem (pc := 75) hV dX6_noteChanges_75 ⟨by decide, by decide⟩ (by omega) ?_
        have t6 := zq_rem_c (x := (σ_13 140 6) + 1) 100 (by decide) (by omega)
        refine zr_putI (pc := 76) hV 6 dX6_noteChanges_76 fX6_94 rfl rfl rfl (zc_k140 zc_s140) (zc_pos zc_s140 rfl) (fun σ76 eσ76 => ?_)
        have hσ76 : zc_T σ76 := zc_u140_6 eσ76 hσ_13 zc_s140 (by omega)
        have hFσ76 := zc_Fw eσ76 zc_s140 rfl hFσ_13
        refine zr_aload_n (pc := 79) hV dX6_noteChanges_79 rfl rfl ?_
        refine zr_aload_n (pc := 80) hV dX6_noteChanges_80 rfl rfl ?_
        refine zr_getI (pc := 81) hV 5 dX6_noteChanges_81 fX6_65 rfl rfl (zc_k140 zc_s140) (zc_pos zc_s140 rfl) ?_
        have t7 := zc_g140_5 hσ76 zc_s140
        have t8 : σ76 140 5 = σ_13 140 5 := by rw [eσ76]; exact zq_up_ne (by omega)
        refine zr_iconst (pc := 84) hV 1 dX6_noteChanges_84 rfl ?_
        refine zr_iadd (pc := 85) hV dX6_noteChanges_85 ?_
        refine zr_bipush (pc := 86) hV 100 dX6_noteChanges_86 (by decide) ?_
        refine zr_min (pc := 88) hV (st := [ZR 140]) dX6_noteChanges_88 lX6_124 (by omega) ⟨by decide, by decide⟩ (Nat.le_of_ble_eq_true rfl) rfl rfl (fun r88 pr88 qr88 => ?_)
        refine zr_putI (pc := 91) hV 5 dX6_noteChanges_91 fX6_65 rfl rfl rfl (zc_k140 zc_s140) (zc_pos zc_s140 rfl) (fun σ91 eσ91 => ?_)
        have hσ91 : zc_T σ91 := zc_u140_5 eσ91 hσ76 zc_s140 (by omega)
        have hFσ91 := zc_Fw eσ91 zc_s140 rfl hFσ76
        exact zr_vret (pc := 94) hV dX6_noteChanges_94 rfl rfl ⟨rfl, hσ91, hFσ91, trivial⟩
      · show V 24 [some (ZR 140), some (ZR row), some (ZI x2_13)] [] 284 σ_13
        refine zr_aload_n (pc := 24) hV dX6_noteChanges_24 rfl rfl ?_
        refine zr_bipush (pc := 25) hV 7 dX6_noteChanges_25 (by decide) ?_
        refine zr_iconst (pc := 27) hV 2 dX6_noteChanges_27 rfl ?_
        refine zr_iload_n (pc := 28) hV dX6_noteChanges_28 rfl rfl ?_
        refine zr_imul (pc := 29) hV dX6_noteChanges_29 ?_
        refine zr_iadd (pc := 30) hV dX6_noteChanges_30 ?_
        refine zr_aload_n (pc := 31) hV dX6_noteChanges_31 rfl rfl ?_
        refine zr_getR (pc := 32) hV 2 141 dX6_noteChanges_32 fX6_16 rfl rfl (zc_k140 zc_s140) (zc_pos zc_s140 rfl) (zc_g140_2 hσ_13 zc_s140) (by decide) ?_
        refine zr_getR (pc := 35) hV 7 145 dX6_noteChanges_35 fX6_118 rfl rfl (zc_k141 zc_s141) (zc_pos zc_s141 rfl) (zc_g141_7 hσ_13 zc_s141) (by decide) ?_
        refine zr_iload_n (pc := 38) hV dX6_noteChanges_38 rfl rfl ?_
        refine zr_iald (pc := 39) hV dX6_noteChanges_39 (zc_k145 zc_s145) (zc_pos zc_s145 rfl) rfl (by omega) ?_
        have t9 := zc_ga145 hσ_13 zc_s145 x2_13
        have t10 : σ_13 145 x2_13 = σ 145 x2_13 := hFσ_13 _ _ (zc_out_ar zc_s145 rfl)
        refine zr_iast (pc := 40) hV dX6_noteChanges_40 (zc_k154 krow) (zc_pos krow rfl) rfl (by omega) (fun σ40 eσ40 => ?_)
        have hσ40 : zc_T σ40 := zc_ua154 eσ40 hσ_13 krow (by omega)
        have hFσ40 := zc_Fa eσ40 krow rfl hFσ_13
        refine zr_aload_n (pc := 41) hV dX6_noteChanges_41 rfl rfl ?_
        refine zr_bipush (pc := 42) hV 7 dX6_noteChanges_42 (by decide) ?_
        refine zr_iconst (pc := 44) hV 2 dX6_noteChanges_44 rfl ?_
        refine zr_iload_n (pc := 45) hV dX6_noteChanges_45 rfl rfl ?_
        refine zr_imul (pc := 46) hV dX6_noteChanges_46 ?_
        refine zr_iadd (pc := 47) hV dX6_noteChanges_47 ?_
        refine zr_iconst (pc := 48) hV 1 dX6_noteChanges_48 rfl ?_
        refine zr_iadd (pc := 49) hV dX6_noteChanges_49 ?_
        refine zr_aload_n (pc := 50) hV dX6_noteChanges_50 rfl rfl ?_
        refine zr_getR (pc := 51) hV 2 141 dX6_noteChanges_51 fX6_16 rfl rfl (zc_k140 zc_s140) (zc_pos zc_s140 rfl) (zc_g140_2 hσ40 zc_s140) (by decide) ?_
        refine zr_getR (pc := 54) hV 8 146 dX6_noteChanges_54 fX6_121 rfl rfl (zc_k141 zc_s141) (zc_pos zc_s141 rfl) (zc_g141_8 hσ40 zc_s141) (by decide) ?_
        refine zr_iload_n (pc := 57) hV dX6_noteChanges_57 rfl rfl ?_
        refine zr_iald (pc := 58) hV dX6_noteChanges_58 (zc_k146 zc_s146) (zc_pos zc_s146 rfl) rfl (by omega) ?_
        have t11 := zc_ga146 hσ40 zc_s146 x2_13
        have t12 : σ40 146 x2_13 = σ_13 146 x2_13 := by rw [eσ40]; exact zq_up_ne (zc_dk zc_s146 krow rfl)
        have t13 : σ_13 146 x2_13 = σ 146 x2_13 := hFσ_13 _ _ (zc_out_ar zc_s146 rfl)
        refine zr_iast (pc := 59) hV dX6_noteChanges_59 (zc_k154 krow) (zc_pos krow rfl) rfl (by omega) (fun σ59 eσ59 => ?_)
        have hσ59 : zc_T σ59 := zc_ua154 eσ59 hσ40 krow (by omega)
        have hFσ59 := zc_Fa eσ59 krow rfl hFσ40
        refine zr_iinc (pc := 60) hV [some (ZR 140), some (ZR row), some (ZI (x2_13 + 1))] (x2_13 + 1) dX6_noteChanges_60 rfl rfl (by decide) rfl rfl ?_
        refine zr_goto (pc := 63) hV 13 dX6_noteChanges_63 (by decide) ?_
        exact ih13 (x2_13 + 1) σ59 (by omega) hσ59 hFσ59 (by omega)
  exact L13 (3 - (0 : Int) + 1 : Int).toNat 0 σ10 (by omega) hσ10 hFσ10 (by omega)
set_option maxHeartbeats 800000 in
theorem c_X6_countStep {σ : zq_S} (hσ : zc_T σ) (order : Int) (korder : zc_kd order = 4) (place : Int) (q0 : 0 ≤ place ∧ place ≤ 63) : zq_C zc_w yX6_countStep cX6_countStep 3 (none) 1 23 284 284 [ZR 140, ZR order, ZI place] σ (zq_pv (fun τ => zc_T τ ∧ zc_Fr [(140, 8), (140, 9), (140, 10), (140, 11), (140, 13), (140, 14), (254, -1)] σ τ ∧ (True))) := by
  refine zq_C_of (by decide) (Nat.le_refl _) (Nat.le_of_ble_eq_true rfl) [some (ZR 140), some (ZR order), some (ZI place)] rfl (fun V hV => ?_)
  have poorder := zc_pos korder rfl
  have hFσ := zc_Fr_rf [(140, 8), (140, 9), (140, 10), (140, 11), (140, 13), (140, 14), (254, -1)] σ
  show V 0 [some (ZR 140), some (ZR order), some (ZI place)] [] 284 σ
  refine zr_aload_n (pc := 0) hV dX6_countStep_0 rfl rfl ?_
  refine zr_dup (pc := 1) hV dX6_countStep_1 (fun _ => rfl) ?_
  refine zr_getI (pc := 2) hV 8 dX6_countStep_2 fX6_50 rfl rfl (zc_k140 zc_s140) (zc_pos zc_s140 rfl) ?_
  have t1 := zc_g140_8 hσ zc_s140
  refine zr_iconst (pc := 5) hV 1 dX6_countStep_5 rfl ?_
  refine zr_iadd (pc := 6) hV dX6_countStep_6 ?_
  refine zr_any (pc := 7) hV (fun y7 hy7 _ => ?_)
  refine zr_putI (pc := 7) hV 8 dX6_countStep_7 fX6_50 rfl rfl rfl (zc_k140 zc_s140) (zc_pos zc_s140 rfl) (fun σ7 eσ7 => ?_)
  have hσ7 : zc_T σ7 := zc_u140_8 eσ7 hσ zc_s140 (by omega)
  have hFσ7 := zc_Fw eσ7 zc_s140 rfl hFσ
  refine zr_aload_n (pc := 10) hV dX6_countStep_10 rfl rfl ?_
  refine zr_dup (pc := 11) hV dX6_countStep_11 (fun _ => rfl) ?_
  refine zr_getI (pc := 12) hV 9 dX6_countStep_12 fX6_53 rfl rfl (zc_k140 zc_s140) (zc_pos zc_s140 rfl) ?_
  have t2 := zc_g140_9 hσ7 zc_s140
  have t3 : σ7 140 9 = σ 140 9 := by rw [eσ7]; exact zq_up_ne (by omega)
  refine zr_aload_n (pc := 15) hV dX6_countStep_15 rfl rfl ?_
  refine zr_getI (pc := 16) hV 11 dX6_countStep_16 fX6_130 rfl rfl (zc_k4 korder) (zc_pos korder rfl) ?_
  have t4 := zc_g4_11 hσ7 korder
  have t5 : σ7 order 11 = σ order 11 := by rw [eσ7]; exact zq_up_ne (zc_dk korder zc_s140 rfl)
  refine zr_iadd (pc := 19) hV dX6_countStep_19 ?_
  refine zr_any (pc := 20) hV (fun y20 hy20 _ => ?_)
  refine zr_putI (pc := 20) hV 9 dX6_countStep_20 fX6_53 rfl rfl rfl (zc_k140 zc_s140) (zc_pos zc_s140 rfl) (fun σ20 eσ20 => ?_)
  have hσ20 : zc_T σ20 := zc_u140_9 eσ20 hσ7 zc_s140 (by omega)
  have hFσ20 := zc_Fw eσ20 zc_s140 rfl hFσ7
  refine zr_aload_n (pc := 23) hV dX6_countStep_23 rfl rfl ?_
  refine zr_getI (pc := 24) hV 13 dX6_countStep_24 fX6_71 rfl rfl (zc_k140 zc_s140) (zc_pos zc_s140 rfl) ?_
  have t6 := zc_g140_13 hσ20 zc_s140
  have t7 : σ20 140 13 = σ7 140 13 := by rw [eσ20]; exact zq_up_ne (by omega)
  have t8 : σ7 140 13 = σ 140 13 := by rw [eσ7]; exact zq_up_ne (by omega)
  refine zr_iconst (pc := 27) hV 1 dX6_countStep_27 rfl ?_
  have J80 : ∀ (σ_80 : zq_S), (zc_T σ_80) → (zc_Fr [(140, 8), (140, 9), (140, 10), (140, 11), (140, 13), (140, 14), (254, -1)] σ σ_80) → V 80 [some (ZR 140), some (ZR order), some (ZI place)] [] 284 σ_80 := by
    intro σ_80 hσ_80 hFσ_80
    show V 80 [some (ZR 140), some (ZR order), some (ZI place)] [] 284 σ_80
    refine zr_aload_n (pc := 80) hV dX6_countStep_80 rfl rfl ?_
    refine zr_aload_n (pc := 81) hV dX6_countStep_81 rfl rfl ?_
    refine zr_getI (pc := 82) hV 11 dX6_countStep_82 fX6_130 rfl rfl (zc_k4 korder) (zc_pos korder rfl) ?_
    have t9 := zc_g4_11 hσ_80 korder
    have t10 : σ_80 order 11 = σ order 11 := hFσ_80 _ _ (zc_out_at korder rfl)
    refine zr_putI (pc := 85) hV 13 dX6_countStep_85 fX6_71 rfl rfl rfl (zc_k140 zc_s140) (zc_pos zc_s140 rfl) (fun σ85 eσ85 => ?_)
    have hσ85 : zc_T σ85 := zc_u140_13 eσ85 hσ_80 zc_s140 (by omega)
    have hFσ85 := zc_Fw eσ85 zc_s140 rfl hFσ_80
    refine zr_aload_n (pc := 88) hV dX6_countStep_88 rfl rfl ?_
    refine zr_aload_n (pc := 89) hV dX6_countStep_89 rfl rfl ?_
    refine zr_getR (pc := 90) hV 2 141 dX6_countStep_90 fX6_16 rfl rfl (zc_k140 zc_s140) (zc_pos zc_s140 rfl) (zc_g140_2 hσ85 zc_s140) (by decide) ?_
    refine zr_aload_n (pc := 93) hV dX6_countStep_93 rfl rfl ?_
    refine zr_getI (pc := 94) hV 13 dX6_countStep_94 fX6_138 rfl rfl (zc_k4 korder) (zc_pos korder rfl) ?_
    have t11 := zc_g4_13 hσ85 korder
    have t12 : σ85 order 13 = σ_80 order 13 := by rw [eσ85]; exact zq_up_ne (zc_dk korder zc_s140 rfl)
    have t13 : σ_80 order 13 = σ order 13 := hFσ_80 _ _ (zc_out_at korder rfl)
    have t14 := zc_g4_13 hσ85 korder
    have t15 : σ85 order 13 = σ_80 order 13 := by rw [eσ85]; exact zq_up_ne (zc_dk korder zc_s140 rfl)
    have t16 : σ_80 order 13 = σ order 13 := hFσ_80 _ _ (zc_out_at korder rfl)
    refine zr_callVp (pc := 97) hV [ZI (σ85 order 13)] (st := [ZR 140]) (c_X10_storesOf (σ := σ85) hσ85 (σ85 order 13) (by omega)) dX6_countStep_97 mX6_134 (zc_k141 zc_s141) (zc_pos zc_s141 rfl) (by decide) (Nat.le_of_ble_eq_true rfl) (Nat.le_refl _) (fun r97 hr97 pr97 => ?_)
    refine zr_putI (pc := 100) hV 14 dX6_countStep_100 fX6_74 rfl rfl rfl (zc_k140 zc_s140) (zc_pos zc_s140 rfl) (fun σ100 eσ100 => ?_)
    have hσ100 : zc_T σ100 := zc_u140_14 eσ100 hσ85 zc_s140 (by omega)
    have hFσ100 := zc_Fw eσ100 zc_s140 rfl hFσ85
    refine zr_aload_n (pc := 103) hV dX6_countStep_103 rfl rfl ?_
    refine zr_getR (pc := 104) hV 7 254 dX6_countStep_104 fX6_28 rfl rfl (zc_k140 zc_s140) (zc_pos zc_s140 rfl) (zc_g140_7 hσ100 zc_s140) (by decide) ?_
    refine zr_iload_n (pc := 107) hV dX6_countStep_107 rfl rfl ?_
    refine zr_iald (pc := 108) hV dX6_countStep_108 (zc_k254 zc_s254) (zc_pos zc_s254 rfl) rfl (by omega) ?_
    have t17 := zc_ga254 hσ100 zc_s254 place
    have t18 : σ100 254 place = σ85 254 place := by rw [eσ100]; exact zq_up_ne (zc_dk zc_s254 zc_s140 rfl)
    have t19 : σ85 254 place = σ_80 254 place := by rw [eσ85]; exact zq_up_ne (zc_dk zc_s254 zc_s140 rfl)
    refine zr_aload_n (pc := 109) hV dX6_countStep_109 rfl rfl ?_
    refine zr_getR (pc := 110) hV 2 141 dX6_countStep_110 fX6_16 rfl rfl (zc_k140 zc_s140) (zc_pos zc_s140 rfl) (zc_g140_2 hσ100 zc_s140) (by decide) ?_
    refine zr_getI (pc := 113) hV 4 dX6_countStep_113 fX6_85 rfl rfl (zc_k141 zc_s141) (zc_pos zc_s141 rfl) ?_
    have t20 := zc_g141_4 hσ100 zc_s141
    have t21 : σ100 141 4 = σ85 141 4 := by rw [eσ100]; exact zq_up_ne (zc_dk zc_s141 zc_s140 rfl)
    have t22 : σ85 141 4 = σ_80 141 4 := by rw [eσ85]; exact zq_up_ne (zc_dk zc_s141 zc_s140 rfl)
    have t23 : σ_80 141 4 = σ 141 4 := hFσ_80 _ _ (zc_out_at zc_s141 rfl)
    refine zr_icmp_eq (pc := 116) hV 155 dX6_countStep_116 (by decide) (by omega) (by omega) (fun c24 => ?_) (fun c24 => ?_)
    · show V 155 [some (ZR 140), some (ZR order), some (ZI place)] [] 284 σ100
      exact zr_vret (pc := 155) hV dX6_countStep_155 rfl rfl ⟨rfl, hσ100, hFσ100, trivial⟩
    · show V 119 [some (ZR 140), some (ZR order), some (ZI place)] [] 284 σ100
      refine zr_aload_n (pc := 119) hV dX6_countStep_119 rfl rfl ?_
      refine zr_getR (pc := 120) hV 7 254 dX6_countStep_120 fX6_28 rfl rfl (zc_k140 zc_s140) (zc_pos zc_s140 rfl) (zc_g140_7 hσ100 zc_s140) (by decide) ?_
      refine zr_iload_n (pc := 123) hV dX6_countStep_123 rfl rfl ?_
      refine zr_aload_n (pc := 124) hV dX6_countStep_124 rfl rfl ?_
      refine zr_getR (pc := 125) hV 2 141 dX6_countStep_125 fX6_16 rfl rfl (zc_k140 zc_s140) (zc_pos zc_s140 rfl) (zc_g140_2 hσ100 zc_s140) (by decide) ?_
      refine zr_getI (pc := 128) hV 4 dX6_countStep_128 fX6_85 rfl rfl (zc_k141 zc_s141) (zc_pos zc_s141 rfl) ?_
      have t25 := zc_g141_4 hσ100 zc_s141
      have t26 : σ100 141 4 = σ85 141 4 := by rw [eσ100]; exact zq_up_ne (zc_dk zc_s141 zc_s140 rfl)
      have t27 : σ85 141 4 = σ_80 141 4 := by rw [eσ85]; exact zq_up_ne (zc_dk zc_s141 zc_s140 rfl)
      have t28 : σ_80 141 4 = σ 141 4 := hFσ_80 _ _ (zc_out_at zc_s141 rfl)
      refine zr_iast (pc := 131) hV dX6_countStep_131 (zc_k254 zc_s254) (zc_pos zc_s254 rfl) rfl (by omega) (fun σ131 eσ131 => ?_)
      have hσ131 : zc_T σ131 := zc_ua254 eσ131 hσ100 zc_s254 (by omega)
      have hFσ131 := zc_Fa eσ131 zc_s254 rfl hFσ100
      refine zr_aload_n (pc := 132) hV dX6_countStep_132 rfl rfl ?_
      refine zr_dup (pc := 133) hV dX6_countStep_133 (fun _ => rfl) ?_
      refine zr_getI (pc := 134) hV 11 dX6_countStep_134 fX6_59 rfl rfl (zc_k140 zc_s140) (zc_pos zc_s140 rfl) ?_
      have t29 := zc_g140_11 hσ131 zc_s140
      have t30 : σ131 140 11 = σ100 140 11 := by rw [eσ131]; exact zq_up_ne (zc_dk zc_s140 zc_s254 rfl)
      have t31 : σ100 140 11 = σ85 140 11 := by rw [eσ100]; exact zq_up_ne (by omega)
      have t32 : σ85 140 11 = σ_80 140 11 := by rw [eσ85]; exact zq_up_ne (by omega)
      refine zr_iconst (pc := 137) hV 1 dX6_countStep_137 rfl ?_
      refine zr_iadd (pc := 138) hV dX6_countStep_138 ?_
      refine zr_any (pc := 139) hV (fun y139 hy139 _ => ?_)
      refine zr_putI (pc := 139) hV 11 dX6_countStep_139 fX6_59 rfl rfl rfl (zc_k140 zc_s140) (zc_pos zc_s140 rfl) (fun σ139 eσ139 => ?_)
      have hσ139 : zc_T σ139 := zc_u140_11 eσ139 hσ131 zc_s140 (by omega)
      have hFσ139 := zc_Fw eσ139 zc_s140 rfl hFσ131
      refine zr_aload_n (pc := 142) hV dX6_countStep_142 rfl rfl ?_
      refine zr_dup (pc := 143) hV dX6_countStep_143 (fun _ => rfl) ?_
      refine zr_getI (pc := 144) hV 9 dX6_countStep_144 fX6_53 rfl rfl (zc_k140 zc_s140) (zc_pos zc_s140 rfl) ?_
      have t33 := zc_g140_9 hσ139 zc_s140
      have t34 : σ139 140 9 = σ131 140 9 := by rw [eσ139]; exact zq_up_ne (by omega)
      have t35 : σ131 140 9 = σ100 140 9 := by rw [eσ131]; exact zq_up_ne (zc_dk zc_s140 zc_s254 rfl)
      have t36 : σ100 140 9 = σ85 140 9 := by rw [eσ100]; exact zq_up_ne (by omega)
      have t37 : σ85 140 9 = σ_80 140 9 := by rw [eσ85]; exact zq_up_ne (by omega)
      refine zr_aload_n (pc := 147) hV dX6_countStep_147 rfl rfl ?_
      refine zr_getI (pc := 148) hV 12 dX6_countStep_148 fX6_43 rfl rfl (zc_k140 zc_s140) (zc_pos zc_s140 rfl) ?_
      have t38 := zc_g140_12 hσ139 zc_s140
      have t39 : σ139 140 12 = σ131 140 12 := by rw [eσ139]; exact zq_up_ne (by omega)
      have t40 : σ131 140 12 = σ100 140 12 := by rw [eσ131]; exact zq_up_ne (zc_dk zc_s140 zc_s254 rfl)
      have t41 : σ100 140 12 = σ85 140 12 := by rw [eσ100]; exact zq_up_ne (by omega)
      have t42 : σ85 140 12 = σ_80 140 12 := by rw [eσ85]; exact zq_up_ne (by omega)
      have t43 : σ_80 140 12 = σ 140 12 := hFσ_80 _ _ (zc_out_at zc_s140 rfl)
      refine zr_iadd (pc := 151) hV dX6_countStep_151 ?_
      refine zr_any (pc := 152) hV (fun y152 hy152 _ => ?_)
      refine zr_putI (pc := 152) hV 9 dX6_countStep_152 fX6_53 rfl rfl rfl (zc_k140 zc_s140) (zc_pos zc_s140 rfl) (fun σ152 eσ152 => ?_)
      have hσ152 : zc_T σ152 := zc_u140_9 eσ152 hσ139 zc_s140 (by omega)
      have hFσ152 := zc_Fw eσ152 zc_s140 rfl hFσ139
      show V 155 [some (ZR 140), some (ZR order), some (ZI place)] [] 284 σ152
      exact zr_vret (pc := 155) hV dX6_countStep_155 rfl rfl ⟨rfl, hσ152, hFσ152, trivial⟩
  refine zr_icmp_le (pc := 28) hV 80 dX6_countStep_28 (by decide) (by omega) ⟨by decide, by decide⟩ (fun c44 => ?_) (fun c44 => ?_)
  · exact J80 σ20 hσ20 hFσ20
  · show V 31 [some (ZR 140), some (ZR order), some (ZI place)] [] 284 σ20
    refine zr_aload_n (pc := 31) hV dX6_countStep_31 rfl rfl ?_
    refine zr_getI (pc := 32) hV 14 dX6_countStep_32 fX6_74 rfl rfl (zc_k140 zc_s140) (zc_pos zc_s140 rfl) ?_
    have t45 := zc_g140_14 hσ20 zc_s140
    have t46 : σ20 140 14 = σ7 140 14 := by rw [eσ20]; exact zq_up_ne (by omega)
    have t47 : σ7 140 14 = σ 140 14 := by rw [eσ7]; exact zq_up_ne (by omega)
    refine zr_aload_n (pc := 35) hV dX6_countStep_35 rfl rfl ?_
    refine zr_getR (pc := 36) hV 2 141 dX6_countStep_36 fX6_16 rfl rfl (zc_k140 zc_s140) (zc_pos zc_s140 rfl) (zc_g140_2 hσ20 zc_s140) (by decide) ?_
    refine zr_aload_n (pc := 39) hV dX6_countStep_39 rfl rfl ?_
    refine zr_getI (pc := 40) hV 12 dX6_countStep_40 fX6_131 rfl rfl (zc_k4 korder) (zc_pos korder rfl) ?_
    have t48 := zc_g4_12 hσ20 korder
    have t49 : σ20 order 12 = σ7 order 12 := by rw [eσ20]; exact zq_up_ne (zc_dk korder zc_s140 rfl)
    have t50 : σ7 order 12 = σ order 12 := by rw [eσ7]; exact zq_up_ne (zc_dk korder zc_s140 rfl)
    have t51 := zc_g4_12 hσ20 korder
    have t52 : σ20 order 12 = σ7 order 12 := by rw [eσ20]; exact zq_up_ne (zc_dk korder zc_s140 rfl)
    have t53 : σ7 order 12 = σ order 12 := by rw [eσ7]; exact zq_up_ne (zc_dk korder zc_s140 rfl)
    refine zr_callVp (pc := 43) hV [ZI (σ20 order 12)] (st := [ZI (σ20 140 14)]) (c_X10_storesOf (σ := σ20) hσ20 (σ20 order 12) (by omega)) dX6_countStep_43 mX6_134 (zc_k141 zc_s141) (zc_pos zc_s141 rfl) (by decide) (Nat.le_of_ble_eq_true rfl) (Nat.le_refl _) (fun r43 hr43 pr43 => ?_)
    refine zr_iand (pc := 46) hV dX6_countStep_46 ?_
    have t54 := zq_and_in (σ20 140 14) r43
    refine zr_if_eq (pc := 47) hV 80 dX6_countStep_47 (by decide) (by omega) (fun c55 => ?_) (fun c55 => ?_)
    · exact J80 σ20 hσ20 hFσ20
    · show V 50 [some (ZR 140), some (ZR order), some (ZI place)] [] 284 σ20
      refine zr_aload_n (pc := 50) hV dX6_countStep_50 rfl rfl ?_
      refine zr_dup (pc := 51) hV dX6_countStep_51 (fun _ => rfl) ?_
      refine zr_getI (pc := 52) hV 10 dX6_countStep_52 fX6_56 rfl rfl (zc_k140 zc_s140) (zc_pos zc_s140 rfl) ?_
      have t56 := zc_g140_10 hσ20 zc_s140
      have t57 : σ20 140 10 = σ7 140 10 := by rw [eσ20]; exact zq_up_ne (by omega)
      have t58 : σ7 140 10 = σ 140 10 := by rw [eσ7]; exact zq_up_ne (by omega)
      refine zr_aload_n (pc := 55) hV dX6_countStep_55 rfl rfl ?_
      refine zr_getI (pc := 56) hV 13 dX6_countStep_56 fX6_71 rfl rfl (zc_k140 zc_s140) (zc_pos zc_s140 rfl) ?_
      have t59 := zc_g140_13 hσ20 zc_s140
      have t60 : σ20 140 13 = σ7 140 13 := by rw [eσ20]; exact zq_up_ne (by omega)
      have t61 : σ7 140 13 = σ 140 13 := by rw [eσ7]; exact zq_up_ne (by omega)
      refine zr_iconst (pc := 59) hV 1 dX6_countStep_59 rfl ?_
      refine zr_isub (pc := 60) hV dX6_countStep_60 ?_
      refine zr_iadd (pc := 61) hV dX6_countStep_61 ?_
      refine zr_any (pc := 62) hV (fun y62 hy62 _ => ?_)
      refine zr_putI (pc := 62) hV 10 dX6_countStep_62 fX6_56 rfl rfl rfl (zc_k140 zc_s140) (zc_pos zc_s140 rfl) (fun σ62 eσ62 => ?_)
      have hσ62 : zc_T σ62 := zc_u140_10 eσ62 hσ20 zc_s140 (by omega)
      have hFσ62 := zc_Fw eσ62 zc_s140 rfl hFσ20
      refine zr_aload_n (pc := 65) hV dX6_countStep_65 rfl rfl ?_
      refine zr_dup (pc := 66) hV dX6_countStep_66 (fun _ => rfl) ?_
      refine zr_getI (pc := 67) hV 9 dX6_countStep_67 fX6_53 rfl rfl (zc_k140 zc_s140) (zc_pos zc_s140 rfl) ?_
      have t62 := zc_g140_9 hσ62 zc_s140
      have t63 : σ62 140 9 = σ20 140 9 := by rw [eσ62]; exact zq_up_ne (by omega)
      have t64 : σ20 140 9 = y20 := by rw [eσ20]; exact zq_up_same _ _ _ _
      refine zr_aload_n (pc := 70) hV dX6_countStep_70 rfl rfl ?_
      refine zr_getI (pc := 71) hV 13 dX6_countStep_71 fX6_71 rfl rfl (zc_k140 zc_s140) (zc_pos zc_s140 rfl) ?_
      have t65 := zc_g140_13 hσ62 zc_s140
      have t66 : σ62 140 13 = σ20 140 13 := by rw [eσ62]; exact zq_up_ne (by omega)
      have t67 : σ20 140 13 = σ7 140 13 := by rw [eσ20]; exact zq_up_ne (by omega)
      have t68 : σ7 140 13 = σ 140 13 := by rw [eσ7]; exact zq_up_ne (by omega)
      refine zr_iconst (pc := 74) hV 1 dX6_countStep_74 rfl ?_
      refine zr_isub (pc := 75) hV dX6_countStep_75 ?_
      refine zr_iadd (pc := 76) hV dX6_countStep_76 ?_
      refine zr_any (pc := 77) hV (fun y77 hy77 _ => ?_)
      refine zr_putI (pc := 77) hV 9 dX6_countStep_77 fX6_53 rfl rfl rfl (zc_k140 zc_s140) (zc_pos zc_s140 rfl) (fun σ77 eσ77 => ?_)
      have hσ77 : zc_T σ77 := zc_u140_9 eσ77 hσ62 zc_s140 (by omega)
      have hFσ77 := zc_Fw eσ77 zc_s140 rfl hFσ62
      exact J80 σ77 hσ77 hFσ77
set_option maxHeartbeats 800000 in
theorem c_X6_step {σ : zq_S} (hσ : zc_T σ)   : zq_C zc_w yX6_step cX6_step 4 (some .boolean) 5 111 284 284 [ZR 140] σ (zq_pi (fun r τ => zc_T τ ∧ zc_Fr [(140, 5), (140, 6), (140, 8), (140, 9), (140, 10), (140, 11), (140, 13), (140, 14), (141, 3), (141, 4), (141, 6), (142, -1), (143, -1), (144, -1), (145, -1), (146, -1), (154, -1), (254, -1)] σ τ ∧ ((0 ≤ r ∧ r ≤ 1)))) := by
  refine zq_C_of (by decide) (Nat.le_refl _) (Nat.le_of_ble_eq_true rfl) [some (ZR 140), none, none, none] rfl (fun V hV => ?_)
  have hFσ := zc_Fr_rf [(140, 5), (140, 6), (140, 8), (140, 9), (140, 10), (140, 11), (140, 13), (140, 14), (141, 3), (141, 4), (141, 6), (142, -1), (143, -1), (144, -1), (145, -1), (146, -1), (154, -1), (254, -1)] σ
  show V 0 [some (ZR 140), none, none, none] [] 284 σ
  refine zr_aload_n (pc := 0) hV dX6_step_0 rfl rfl ?_
  refine zr_getR (pc := 1) hV 2 141 dX6_step_1 fX6_16 rfl rfl (zc_k140 zc_s140) (zc_pos zc_s140 rfl) (zc_g140_2 hσ zc_s140) (by decide) ?_
  refine zr_getI (pc := 4) hV 4 dX6_step_4 fX6_85 rfl rfl (zc_k141 zc_s141) (zc_pos zc_s141 rfl) ?_
  have t1 := zc_g141_4 hσ zc_s141
  refine zr_bipush (pc := 7) hV 63 dX6_step_7 (by decide) ?_
  refine zr_iand (pc := 9) hV dX6_step_9 ?_
  have t2 := zq_and_mask (σ 141 4) 6 63 64 (by decide) (by decide) (by decide)
  refine zr_istore_n (pc := 10) hV [some (ZR 140), some (ZI (zq_and (σ 141 4) 63)), none, none] dX6_step_10 rfl (by decide) rfl rfl ?_
  refine zr_aload_n (pc := 11) hV dX6_step_11 rfl rfl ?_
  refine zr_getR (pc := 12) hV 0 3 dX6_step_12 fX6_32 rfl rfl (zc_k140 zc_s140) (zc_pos zc_s140 rfl) (zc_g140_0 hσ zc_s140) (by decide) ?_
  refine zr_aload_n (pc := 15) hV dX6_step_15 rfl rfl ?_
  refine zr_getR (pc := 16) hV 1 139 dX6_step_16 fX6_36 rfl rfl (zc_k140 zc_s140) (zc_pos zc_s140 rfl) (zc_g140_1 hσ zc_s140) (by decide) ?_
  refine zr_iload_n (pc := 19) hV dX6_step_19 rfl rfl ?_
  refine zr_iald (pc := 20) hV dX6_step_20 (zc_k139 zc_s139) (zc_pos zc_s139 rfl) rfl (by omega) ?_
  have t3 := zc_ga139 hσ zc_s139 (zq_and (σ 141 4) 63)
  have t4 := zc_g141_4 hσ zc_s141
  refine zr_callVr (pc := 21) hV [ZI (σ 139 (zq_and (σ 141 4) 63))] (st := []) (c_X9_orderOf (σ := σ) hσ (σ 139 (zq_and (σ 141 4) 63)) (by omega)) dX6_step_21 mX6_88 (zc_k3 zc_s3) (zc_pos zc_s3 rfl) (by decide) (Nat.le_of_ble_eq_true rfl) (Nat.le_refl _) (fun r21 pr21 => ?_)
  refine zr_astore_nQ (pc := 24) hV [some (ZR 140), some (ZI (zq_and (σ 141 4) 63)), some (zq_nr r21), none] dX6_step_24 rfl (by decide) rfl rfl ?_
  refine zr_aload_nQ (pc := 25) hV dX6_step_25 rfl rfl ?_
  by_cases c5 : r21 < 0
  · rw [zq_nr_n c5]
    refine zr_ifnonnullN (pc := 26) hV dX6_step_26 ?_
    show V 29 [some (ZR 140), some (ZI (zq_and (σ 141 4) 63)), some (ZN), none] [] 284 σ
    refine zr_iconst (pc := 29) hV 0 dX6_step_29 rfl ?_
    exact zr_zret (pc := 30) hV dX6_step_30 rfl rfl (by omega) ⟨_, rfl, ⟨by decide, by decide⟩, hσ, hFσ, (by omega)⟩
  · rw [zq_nr_p c5]
    have kr21 : zc_kd r21 = 4 := pr21.1 (by omega)
    have por21 := zc_pos kr21 rfl
    refine zr_ifnonnull (pc := 26) hV 31 dX6_step_26 (by decide) ?_
    show V 31 [some (ZR 140), some (ZI (zq_and (σ 141 4) 63)), some (ZR r21), none] [] 284 σ
    refine zr_aload_n (pc := 31) hV dX6_step_31 rfl rfl ?_
    refine zr_getR (pc := 32) hV 4 153 dX6_step_32 fX6_25 rfl rfl (zc_k140 zc_s140) (zc_pos zc_s140 rfl) (zc_g140_4 hσ zc_s140) (by decide) ?_
    refine zr_aload_n (pc := 35) hV dX6_step_35 rfl rfl ?_
    refine zr_getI (pc := 36) hV 6 dX6_step_36 fX6_94 rfl rfl (zc_k140 zc_s140) (zc_pos zc_s140 rfl) ?_
    have t6 := zc_g140_6 hσ zc_s140
    have ga39 : σ 153 (σ 140 6) = 154 + (σ 140 6) := zc_ga153 hσ zc_s153 (σ 140 6) (by omega) (by omega)
    refine zr_aald (pc := 39) hV dX6_step_39 (zc_k153 zc_s153) (Or.inr rfl) (zc_pos zc_s153 rfl) rfl (by omega) (by omega) ?_
    obtain ⟨o39, eo39⟩ : ∃ o, σ 153 (σ 140 6) = o := ⟨_, rfl⟩
    rw [eo39] at ga39 ⊢
    have ko39 : zc_kd o39 = 154 := ga39 ▸ zc_e154 (by omega) (by omega)
    have po39 := zc_pos ko39 rfl
    show V 40 [some (ZR 140), some (ZI (zq_and (σ 141 4) 63)), some (ZR r21), none] [ZR o39] 284 σ
    refine zr_astore_n (pc := 40) hV [some (ZR 140), some (ZI (zq_and (σ 141 4) 63)), some (ZR r21), some (ZR o39)] dX6_step_40 rfl (by decide) rfl rfl ?_
    refine zr_aload_n (pc := 41) hV dX6_step_41 rfl rfl ?_
    refine zr_aload_n (pc := 42) hV dX6_step_42 rfl rfl ?_
    refine zr_iload_n (pc := 43) hV dX6_step_43 rfl rfl ?_
    have t7 := zc_g141_4 hσ zc_s141
    refine zr_callVv (pc := 44) hV [ZR o39, ZI (zq_and (σ 141 4) 63)] (st := []) (c_X6_noteAhead (σ := σ) hσ o39 ko39 (zq_and (σ 141 4) 63) (by omega)) dX6_step_44 mX6_97 (zc_k140 zc_s140) (zc_pos zc_s140 rfl) (by decide) (Nat.le_of_ble_eq_true rfl) (Nat.le_refl _) (fun σ44 pσ44 => ?_)
    obtain ⟨hσ44, hfσ44, pσ44⟩ := pσ44
    have hFσ44 := zc_Fc hfσ44 rfl hFσ
    refine zr_aload_n (pc := 47) hV dX6_step_47 rfl rfl ?_
    refine zr_getR (pc := 48) hV 2 141 dX6_step_48 fX6_16 rfl rfl (zc_k140 zc_s140) (zc_pos zc_s140 rfl) (zc_g140_2 hσ44 zc_s140) (by decide) ?_
    refine zr_aload_n (pc := 51) hV dX6_step_51 rfl rfl ?_
    refine zr_aload_n (pc := 52) hV dX6_step_52 rfl rfl ?_
    refine zr_getR (pc := 53) hV 1 139 dX6_step_53 fX6_36 rfl rfl (zc_k140 zc_s140) (zc_pos zc_s140 rfl) (zc_g140_1 hσ44 zc_s140) (by decide) ?_
    refine zr_iload_n (pc := 56) hV dX6_step_56 rfl rfl ?_
    refine zr_iald (pc := 57) hV dX6_step_57 (zc_k139 zc_s139) (zc_pos zc_s139 rfl) rfl (by omega) ?_
    have t8 := zc_ga139 hσ44 zc_s139 (zq_and (σ 141 4) 63)
    have t9 : σ44 139 (zq_and (σ 141 4) 63) = σ 139 (zq_and (σ 141 4) 63) := hfσ44 _ _ (zc_out_ar zc_s139 rfl)
    refine zr_callVv (pc := 58) hV [ZR r21, ZI (σ44 139 (zq_and (σ 141 4) 63))] (st := []) (c_X10_perform (σ := σ44) hσ44 r21 kr21 (σ44 139 (zq_and (σ 141 4) 63)) (by omega)) dX6_step_58 mX6_101 (zc_k141 zc_s141) (zc_pos zc_s141 rfl) (by decide) (Nat.le_of_ble_eq_true rfl) (Nat.le_refl _) (fun σ58 pσ58 => ?_)
    obtain ⟨hσ58, hfσ58, pσ58⟩ := pσ58
    have hFσ58 := zc_Fc hfσ58 rfl hFσ44
    refine zr_aload_n (pc := 61) hV dX6_step_61 rfl rfl ?_
    refine zr_aload_n (pc := 62) hV dX6_step_62 rfl rfl ?_
    refine zr_callVv (pc := 63) hV [ZR o39] (st := []) (c_X6_noteChanges (σ := σ58) hσ58 o39 ko39) dX6_step_63 mX6_105 (zc_k140 zc_s140) (zc_pos zc_s140 rfl) (by decide) (Nat.le_of_ble_eq_true rfl) (Nat.le_refl _) (fun σ63 pσ63 => ?_)
    obtain ⟨hσ63, hfσ63, pσ63⟩ := pσ63
    have hFσ63 := zc_Fc hfσ63 rfl hFσ58
    refine zr_aload_n (pc := 66) hV dX6_step_66 rfl rfl ?_
    refine zr_aload_n (pc := 67) hV dX6_step_67 rfl rfl ?_
    refine zr_iload_n (pc := 68) hV dX6_step_68 rfl rfl ?_
    refine zr_callVv (pc := 69) hV [ZR r21, ZI (zq_and (σ 141 4) 63)] (st := []) (c_X6_countStep (σ := σ63) hσ63 r21 kr21 (zq_and (σ 141 4) 63) (by omega)) dX6_step_69 mX6_109 (zc_k140 zc_s140) (zc_pos zc_s140 rfl) (by decide) (Nat.le_of_ble_eq_true rfl) (Nat.le_refl _) (fun σ69 pσ69 => ?_)
    obtain ⟨hσ69, hfσ69, pσ69⟩ := pσ69
    have hFσ69 := zc_Fc hfσ69 rfl hFσ63
    refine zr_iconst (pc := 72) hV 1 dX6_step_72 rfl ?_
    exact zr_zret (pc := 73) hV dX6_step_73 rfl rfl (by omega) ⟨_, rfl, ⟨by decide, by decide⟩, hσ69, hFσ69, (by omega)⟩
set_option maxHeartbeats 800000 in
theorem c_X6_goOn {σ : zq_S} (hσ : zc_T σ) (n : Int) (q0 : 1 ≤ n ∧ n ≤ 2000) : zq_C zc_w yX6_goOn cX6_goOn 3 (some .int) 6 134 284 284 [ZR 140, ZI n] σ (zq_pi (fun r τ => zc_T τ ∧ zc_Fr [(140, 5), (140, 6), (140, 8), (140, 9), (140, 10), (140, 11), (140, 13), (140, 14), (141, 3), (141, 4), (141, 6), (142, -1), (143, -1), (144, -1), (145, -1), (146, -1), (154, -1), (254, -1)] σ τ ∧ (True))) := by
  refine zq_C_of (by decide) (Nat.le_refl _) (Nat.le_of_ble_eq_true rfl) [some (ZR 140), some (ZI n), none] rfl (fun V hV => ?_)
  have hFσ := zc_Fr_rf [(140, 5), (140, 6), (140, 8), (140, 9), (140, 10), (140, 11), (140, 13), (140, 14), (141, 3), (141, 4), (141, 6), (142, -1), (143, -1), (144, -1), (145, -1), (146, -1), (154, -1), (254, -1)] σ
  show V 0 [some (ZR 140), some (ZI n), none] [] 284 σ
  refine zr_iconst (pc := 0) hV 0 dX6_goOn_0 rfl ?_
  refine zr_istore_n (pc := 1) hV [some (ZR 140), some (ZI n), some (ZI 0)] dX6_goOn_1 rfl (by decide) rfl rfl ?_
  have L2 : ∀ (fuel : Nat) (x2_2 : Int) (σ_2 : zq_S), (0 ≤ x2_2 ∧ x2_2 ≤ 2000) → (zc_T σ_2) → (zc_Fr [(140, 5), (140, 6), (140, 8), (140, 9), (140, 10), (140, 11), (140, 13), (140, 14), (141, 3), (141, 4), (141, 6), (142, -1), (143, -1), (144, -1), (145, -1), (146, -1), (154, -1), (254, -1)] σ σ_2) → 2000 - x2_2 < (fuel : Int) → V 2 [some (ZR 140), some (ZI n), some (ZI x2_2)] [] 284 σ_2 := by
    intro fuel
    induction fuel with
    | zero =>
      intro x2_2 σ_2 hx2_2 hσ_2 hFσ_2 hm2
      exfalso; omega
    | succ fuel ih =>
      intro x2_2 σ_2 hx2_2 hσ_2 hFσ_2 hm2
      have ih2 := ih
      show V 2 [some (ZR 140), some (ZI n), some (ZI x2_2)] [] 284 σ_2
      refine zr_iload_n (pc := 2) hV dX6_goOn_2 rfl rfl ?_
      refine zr_iload_n (pc := 3) hV dX6_goOn_3 rfl rfl ?_
      refine zr_icmp_ge (pc := 4) hV 22 dX6_goOn_4 (by decide) (by omega) (by omega) (fun c1 => ?_) (fun c1 => ?_)
      · show V 22 [some (ZR 140), some (ZI n), some (ZI x2_2)] [] 284 σ_2
        refine zr_iload_n (pc := 22) hV dX6_goOn_22 rfl rfl ?_
        exact zr_iret (pc := 23) hV dX6_goOn_23 rfl rfl ⟨_, rfl, (by omega), hσ_2, hFσ_2, trivial⟩
      · show V 7 [some (ZR 140), some (ZI n), some (ZI x2_2)] [] 284 σ_2
        refine zr_aload_n (pc := 7) hV dX6_goOn_7 rfl rfl ?_
        refine zr_callVi (pc := 8) hV [] (st := []) (c_X6_step (σ := σ_2) hσ_2) dX6_goOn_8 mX6_81 (zc_k140 zc_s140) (zc_pos zc_s140 rfl) (by decide) (Nat.le_of_ble_eq_true rfl) (Nat.le_refl _) (fun r8 σ8 hr8 pσ8 => ?_)
        obtain ⟨hσ8, hfσ8, pσ8⟩ := pσ8
        have hFσ8 := zc_Fc hfσ8 rfl hFσ_2
        refine zr_if_ne (pc := 11) hV 16 dX6_goOn_11 (by decide) (by omega) (fun c2 => ?_) (fun c2 => ?_)
        · show V 16 [some (ZR 140), some (ZI n), some (ZI x2_2)] [] 284 σ8
          refine zr_iinc (pc := 16) hV [some (ZR 140), some (ZI n), some (ZI (x2_2 + 1))] (x2_2 + 1) dX6_goOn_16 rfl rfl (by decide) rfl rfl ?_
          refine zr_goto (pc := 19) hV 2 dX6_goOn_19 (by decide) ?_
          exact ih2 (x2_2 + 1) σ8 (by omega) hσ8 hFσ8 (by omega)
        · show V 14 [some (ZR 140), some (ZI n), some (ZI x2_2)] [] 284 σ8
          refine zr_iload_n (pc := 14) hV dX6_goOn_14 rfl rfl ?_
          exact zr_iret (pc := 15) hV dX6_goOn_15 rfl rfl ⟨_, rfl, (by omega), hσ8, hFσ8, trivial⟩
  exact L2 (2000 - (0 : Int) + 1 : Int).toNat 0 σ (by omega) hσ hFσ (by omega)
set_option maxHeartbeats 800000 in
theorem c_X6_undoStep {σ : zq_S} (hσ : zc_T σ) (row : Int) (krow : zc_kd row = 154)  : zq_C zc_w yX6_undoStep cX6_undoStep 3 (none) 1 22 284 284 [ZR 140, ZR row] σ (zq_pv (fun τ => zc_T τ ∧ zc_Fr [(140, 8), (140, 9), (140, 10), (140, 11), (141, 3), (141, 4), (142, -1), (143, -1), (254, -1)] σ τ ∧ (True))) := by
  refine zq_C_of (by decide) (Nat.le_refl _) (Nat.le_of_ble_eq_true rfl) [some (ZR 140), some (ZR row), none] rfl (fun V hV => ?_)
  have porow := zc_pos krow rfl
  have hFσ := zc_Fr_rf [(140, 8), (140, 9), (140, 10), (140, 11), (141, 3), (141, 4), (142, -1), (143, -1), (254, -1)] σ
  show V 0 [some (ZR 140), some (ZR row), none] [] 284 σ
  refine zr_aload_n (pc := 0) hV dX6_undoStep_0 rfl rfl ?_
  refine zr_bipush (pc := 1) hV 6 dX6_undoStep_1 (by decide) ?_
  refine zr_iald (pc := 3) hV dX6_undoStep_3 (zc_k154 krow) (zc_pos krow rfl) rfl (by omega) ?_
  have t1 := zc_ga154 hσ krow 6
  refine zr_iconst (pc := 4) hV 1 dX6_undoStep_4 rfl ?_
  refine zr_isub (pc := 5) hV dX6_undoStep_5 ?_
  refine zr_istore_n (pc := 6) hV [some (ZR 140), some (ZR row), some (ZI ((σ row 6) - 1))] dX6_undoStep_6 rfl (by decide) rfl rfl ?_
  have L7 : ∀ (fuel : Nat) (x2_7 : Int) (σ_7 : zq_S), ((-1) ≤ x2_7 ∧ x2_7 ≤ 2) → (zc_T σ_7) → (zc_Fr [(140, 8), (140, 9), (140, 10), (140, 11), (141, 3), (141, 4), (142, -1), (143, -1), (254, -1)] σ σ_7) → x2_7 - (-1) < (fuel : Int) → V 7 [some (ZR 140), some (ZR row), some (ZI x2_7)] [] 284 σ_7 := by
    intro fuel
    induction fuel with
    | zero =>
      intro x2_7 σ_7 hx2_7 hσ_7 hFσ_7 hm7
      exfalso; omega
    | succ fuel ih =>
      intro x2_7 σ_7 hx2_7 hσ_7 hFσ_7 hm7
      have ih7 := ih
      show V 7 [some (ZR 140), some (ZR row), some (ZI x2_7)] [] 284 σ_7
      refine zr_iload_n (pc := 7) hV dX6_undoStep_7 rfl rfl ?_
      refine zr_if_lt (pc := 8) hV 42 dX6_undoStep_8 (by decide) (by omega) (fun c2 => ?_) (fun c2 => ?_)
      · show V 42 [some (ZR 140), some (ZR row), some (ZI x2_7)] [] 284 σ_7
        refine zr_aload_n (pc := 42) hV dX6_undoStep_42 rfl rfl ?_
        refine zr_getR (pc := 43) hV 2 141 dX6_undoStep_43 fX6_16 rfl rfl (zc_k140 zc_s140) (zc_pos zc_s140 rfl) (zc_g140_2 hσ_7 zc_s140) (by decide) ?_
        refine zr_aload_n (pc := 46) hV dX6_undoStep_46 rfl rfl ?_
        refine zr_iconst (pc := 47) hV 0 dX6_undoStep_47 rfl ?_
        refine zr_iald (pc := 48) hV dX6_undoStep_48 (zc_k154 krow) (zc_pos krow rfl) rfl (by omega) ?_
        have t3 := zc_ga154 hσ_7 krow 0
        have t4 : σ_7 row 0 = σ row 0 := hFσ_7 _ _ (zc_out_ar krow rfl)
        refine zr_putI (pc := 49) hV 4 dX6_undoStep_49 fX6_85 rfl rfl rfl (zc_k141 zc_s141) (zc_pos zc_s141 rfl) (fun σ49 eσ49 => ?_)
        have hσ49 : zc_T σ49 := zc_u141_4 eσ49 hσ_7 zc_s141 (by omega)
        have hFσ49 := zc_Fw eσ49 zc_s141 rfl hFσ_7
        refine zr_aload_n (pc := 52) hV dX6_undoStep_52 rfl rfl ?_
        refine zr_getR (pc := 53) hV 2 141 dX6_undoStep_53 fX6_16 rfl rfl (zc_k140 zc_s140) (zc_pos zc_s140 rfl) (zc_g140_2 hσ49 zc_s140) (by decide) ?_
        refine zr_aload_n (pc := 56) hV dX6_undoStep_56 rfl rfl ?_
        refine zr_iconst (pc := 57) hV 1 dX6_undoStep_57 rfl ?_
        refine zr_iald (pc := 58) hV dX6_undoStep_58 (zc_k154 krow) (zc_pos krow rfl) rfl (by omega) ?_
        have t5 := zc_ga154 hσ49 krow 1
        have t6 : σ49 row 1 = σ_7 row 1 := by rw [eσ49]; exact zq_up_ne (zc_dk krow zc_s141 rfl)
        have t7 : σ_7 row 1 = σ row 1 := hFσ_7 _ _ (zc_out_ar krow rfl)
        refine zr_putI (pc := 59) hV 3 dX6_undoStep_59 fX6_112 rfl rfl rfl (zc_k141 zc_s141) (zc_pos zc_s141 rfl) (fun σ59 eσ59 => ?_)
        have hσ59 : zc_T σ59 := zc_u141_3 eσ59 hσ49 zc_s141 (by omega)
        have hFσ59 := zc_Fw eσ59 zc_s141 rfl hFσ49
        refine zr_aload_n (pc := 62) hV dX6_undoStep_62 rfl rfl ?_
        refine zr_getR (pc := 63) hV 7 254 dX6_undoStep_63 fX6_28 rfl rfl (zc_k140 zc_s140) (zc_pos zc_s140 rfl) (zc_g140_7 hσ59 zc_s140) (by decide) ?_
        refine zr_aload_n (pc := 66) hV dX6_undoStep_66 rfl rfl ?_
        refine zr_getR (pc := 67) hV 2 141 dX6_undoStep_67 fX6_16 rfl rfl (zc_k140 zc_s140) (zc_pos zc_s140 rfl) (zc_g140_2 hσ59 zc_s140) (by decide) ?_
        refine zr_getI (pc := 70) hV 4 dX6_undoStep_70 fX6_85 rfl rfl (zc_k141 zc_s141) (zc_pos zc_s141 rfl) ?_
        have t8 := zc_g141_4 hσ59 zc_s141
        have t9 : σ59 141 4 = σ49 141 4 := by rw [eσ59]; exact zq_up_ne (by omega)
        have t10 : σ49 141 4 = σ_7 row 0 := by rw [eσ49]; exact zq_up_same _ _ _ _
        refine zr_bipush (pc := 73) hV 63 dX6_undoStep_73 (by decide) ?_
        refine zr_iand (pc := 75) hV dX6_undoStep_75 ?_
        have t11 := zq_and_mask (σ59 141 4) 6 63 64 (by decide) (by decide) (by decide)
        refine zr_aload_n (pc := 76) hV dX6_undoStep_76 rfl rfl ?_
        refine zr_iconst (pc := 77) hV 2 dX6_undoStep_77 rfl ?_
        refine zr_iald (pc := 78) hV dX6_undoStep_78 (zc_k154 krow) (zc_pos krow rfl) rfl (by omega) ?_
        have t12 := zc_ga154 hσ59 krow 2
        have t13 : σ59 row 2 = σ49 row 2 := by rw [eσ59]; exact zq_up_ne (zc_dk krow zc_s141 rfl)
        have t14 : σ49 row 2 = σ_7 row 2 := by rw [eσ49]; exact zq_up_ne (zc_dk krow zc_s141 rfl)
        have t15 : σ_7 row 2 = σ row 2 := hFσ_7 _ _ (zc_out_ar krow rfl)
        refine zr_iast (pc := 79) hV dX6_undoStep_79 (zc_k254 zc_s254) (zc_pos zc_s254 rfl) rfl (by omega) (fun σ79 eσ79 => ?_)
        have hσ79 : zc_T σ79 := zc_ua254 eσ79 hσ59 zc_s254 (by omega)
        have hFσ79 := zc_Fa eσ79 zc_s254 rfl hFσ59
        refine zr_aload_n (pc := 80) hV dX6_undoStep_80 rfl rfl ?_
        refine zr_aload_n (pc := 81) hV dX6_undoStep_81 rfl rfl ?_
        refine zr_iconst (pc := 82) hV 3 dX6_undoStep_82 rfl ?_
        refine zr_iald (pc := 83) hV dX6_undoStep_83 (zc_k154 krow) (zc_pos krow rfl) rfl (by omega) ?_
        have t16 := zc_ga154 hσ79 krow 3
        have t17 : σ79 row 3 = σ59 row 3 := by rw [eσ79]; exact zq_up_ne (zc_dk krow zc_s254 rfl)
        have t18 : σ59 row 3 = σ49 row 3 := by rw [eσ59]; exact zq_up_ne (zc_dk krow zc_s141 rfl)
        have t19 : σ49 row 3 = σ_7 row 3 := by rw [eσ49]; exact zq_up_ne (zc_dk krow zc_s141 rfl)
        have t20 : σ_7 row 3 = σ row 3 := hFσ_7 _ _ (zc_out_ar krow rfl)
        refine zr_putI (pc := 84) hV 9 dX6_undoStep_84 fX6_53 rfl rfl rfl (zc_k140 zc_s140) (zc_pos zc_s140 rfl) (fun σ84 eσ84 => ?_)
        have hσ84 : zc_T σ84 := zc_u140_9 eσ84 hσ79 zc_s140 (by omega)
        have hFσ84 := zc_Fw eσ84 zc_s140 rfl hFσ79
        refine zr_aload_n (pc := 87) hV dX6_undoStep_87 rfl rfl ?_
        refine zr_aload_n (pc := 88) hV dX6_undoStep_88 rfl rfl ?_
        refine zr_iconst (pc := 89) hV 4 dX6_undoStep_89 rfl ?_
        refine zr_iald (pc := 90) hV dX6_undoStep_90 (zc_k154 krow) (zc_pos krow rfl) rfl (by omega) ?_
        have t21 := zc_ga154 hσ84 krow 4
        have t22 : σ84 row 4 = σ79 row 4 := by rw [eσ84]; exact zq_up_ne (zc_dk krow zc_s140 rfl)
        have t23 : σ79 row 4 = σ59 row 4 := by rw [eσ79]; exact zq_up_ne (zc_dk krow zc_s254 rfl)
        have t24 : σ59 row 4 = σ49 row 4 := by rw [eσ59]; exact zq_up_ne (zc_dk krow zc_s141 rfl)
        have t25 : σ49 row 4 = σ_7 row 4 := by rw [eσ49]; exact zq_up_ne (zc_dk krow zc_s141 rfl)
        have t26 : σ_7 row 4 = σ row 4 := hFσ_7 _ _ (zc_out_ar krow rfl)
        refine zr_putI (pc := 91) hV 10 dX6_undoStep_91 fX6_56 rfl rfl rfl (zc_k140 zc_s140) (zc_pos zc_s140 rfl) (fun σ91 eσ91 => ?_)
        have hσ91 : zc_T σ91 := zc_u140_10 eσ91 hσ84 zc_s140 (by omega)
        have hFσ91 := zc_Fw eσ91 zc_s140 rfl hFσ84
        refine zr_aload_n (pc := 94) hV dX6_undoStep_94 rfl rfl ?_
        refine zr_aload_n (pc := 95) hV dX6_undoStep_95 rfl rfl ?_
        refine zr_iconst (pc := 96) hV 5 dX6_undoStep_96 rfl ?_
        refine zr_iald (pc := 97) hV dX6_undoStep_97 (zc_k154 krow) (zc_pos krow rfl) rfl (by omega) ?_
        have t27 := zc_ga154 hσ91 krow 5
        have t28 : σ91 row 5 = σ84 row 5 := by rw [eσ91]; exact zq_up_ne (zc_dk krow zc_s140 rfl)
        have t29 : σ84 row 5 = σ79 row 5 := by rw [eσ84]; exact zq_up_ne (zc_dk krow zc_s140 rfl)
        have t30 : σ79 row 5 = σ59 row 5 := by rw [eσ79]; exact zq_up_ne (zc_dk krow zc_s254 rfl)
        have t31 : σ59 row 5 = σ49 row 5 := by rw [eσ59]; exact zq_up_ne (zc_dk krow zc_s141 rfl)
        have t32 : σ49 row 5 = σ_7 row 5 := by rw [eσ49]; exact zq_up_ne (zc_dk krow zc_s141 rfl)
        have t33 : σ_7 row 5 = σ row 5 := hFσ_7 _ _ (zc_out_ar krow rfl)
        refine zr_putI (pc := 98) hV 11 dX6_undoStep_98 fX6_59 rfl rfl rfl (zc_k140 zc_s140) (zc_pos zc_s140 rfl) (fun σ98 eσ98 => ?_)
        have hσ98 : zc_T σ98 := zc_u140_11 eσ98 hσ91 zc_s140 (by omega)
        have hFσ98 := zc_Fw eσ98 zc_s140 rfl hFσ91
        refine zr_aload_n (pc := 101) hV dX6_undoStep_101 rfl rfl ?_
        refine zr_dup (pc := 102) hV dX6_undoStep_102 (fun _ => rfl) ?_
        refine zr_getI (pc := 103) hV 8 dX6_undoStep_103 fX6_50 rfl rfl (zc_k140 zc_s140) (zc_pos zc_s140 rfl) ?_
        have t34 := zc_g140_8 hσ98 zc_s140
        have t35 : σ98 140 8 = σ91 140 8 := by rw [eσ98]; exact zq_up_ne (by omega)
        have t36 : σ91 140 8 = σ84 140 8 := by rw [eσ91]; exact zq_up_ne (by omega)
        have t37 : σ84 140 8 = σ79 140 8 := by rw [eσ84]; exact zq_up_ne (by omega)
        have t38 : σ79 140 8 = σ59 140 8 := by rw [eσ79]; exact zq_up_ne (zc_dk zc_s140 zc_s254 rfl)
        have t39 : σ59 140 8 = σ49 140 8 := by rw [eσ59]; exact zq_up_ne (zc_dk zc_s140 zc_s141 rfl)
        have t40 : σ49 140 8 = σ_7 140 8 := by rw [eσ49]; exact zq_up_ne (zc_dk zc_s140 zc_s141 rfl)
        refine zr_iconst (pc := 106) hV 1 dX6_undoStep_106 rfl ?_
        refine zr_isub (pc := 107) hV dX6_undoStep_107 ?_
        refine zr_any (pc := 108) hV (fun y108 hy108 _ => ?_)
        refine zr_putI (pc := 108) hV 8 dX6_undoStep_108 fX6_50 rfl rfl rfl (zc_k140 zc_s140) (zc_pos zc_s140 rfl) (fun σ108 eσ108 => ?_)
        have hσ108 : zc_T σ108 := zc_u140_8 eσ108 hσ98 zc_s140 (by omega)
        have hFσ108 := zc_Fw eσ108 zc_s140 rfl hFσ98
        exact zr_vret (pc := 111) hV dX6_undoStep_111 rfl rfl ⟨rfl, hσ108, hFσ108, trivial⟩
      · show V 11 [some (ZR 140), some (ZR row), some (ZI x2_7)] [] 284 σ_7
        refine zr_aload_n (pc := 11) hV dX6_undoStep_11 rfl rfl ?_
        refine zr_getR (pc := 12) hV 2 141 dX6_undoStep_12 fX6_16 rfl rfl (zc_k140 zc_s140) (zc_pos zc_s140 rfl) (zc_g140_2 hσ_7 zc_s140) (by decide) ?_
        refine zr_aload_n (pc := 15) hV dX6_undoStep_15 rfl rfl ?_
        refine zr_bipush (pc := 16) hV 7 dX6_undoStep_16 (by decide) ?_
        refine zr_iconst (pc := 18) hV 2 dX6_undoStep_18 rfl ?_
        refine zr_iload_n (pc := 19) hV dX6_undoStep_19 rfl rfl ?_
        refine zr_imul (pc := 20) hV dX6_undoStep_20 ?_
        refine zr_iadd (pc := 21) hV dX6_undoStep_21 ?_
        refine zr_iald (pc := 22) hV dX6_undoStep_22 (zc_k154 krow) (zc_pos krow rfl) rfl (by omega) ?_
        have t41 := zc_ga154 hσ_7 krow (7 + (2 * x2_7))
        have t42 : σ_7 row (7 + (2 * x2_7)) = σ row (7 + (2 * x2_7)) := hFσ_7 _ _ (zc_out_ar krow rfl)
        refine zr_aload_n (pc := 23) hV dX6_undoStep_23 rfl rfl ?_
        refine zr_bipush (pc := 24) hV 7 dX6_undoStep_24 (by decide) ?_
        refine zr_iconst (pc := 26) hV 2 dX6_undoStep_26 rfl ?_
        refine zr_iload_n (pc := 27) hV dX6_undoStep_27 rfl rfl ?_
        refine zr_imul (pc := 28) hV dX6_undoStep_28 ?_
        refine zr_iadd (pc := 29) hV dX6_undoStep_29 ?_
        refine zr_iconst (pc := 30) hV 1 dX6_undoStep_30 rfl ?_
        refine zr_iadd (pc := 31) hV dX6_undoStep_31 ?_
        refine zr_iald (pc := 32) hV dX6_undoStep_32 (zc_k154 krow) (zc_pos krow rfl) rfl (by omega) ?_
        have t43 := zc_ga154 hσ_7 krow ((7 + (2 * x2_7)) + 1)
        have t44 : σ_7 row ((7 + (2 * x2_7)) + 1) = σ row ((7 + (2 * x2_7)) + 1) := hFσ_7 _ _ (zc_out_ar krow rfl)
        refine zr_callVv (pc := 33) hV [ZI (σ_7 row (7 + (2 * x2_7))), ZI (σ_7 row ((7 + (2 * x2_7)) + 1))] (st := []) (c_X10_undoChange (σ := σ_7) hσ_7 (σ_7 row (7 + (2 * x2_7))) (σ_7 row ((7 + (2 * x2_7)) + 1)) (by omega) (by omega)) dX6_undoStep_33 mX6_144 (zc_k141 zc_s141) (zc_pos zc_s141 rfl) (by decide) (Nat.le_of_ble_eq_true rfl) (Nat.le_refl _) (fun σ33 pσ33 => ?_)
        obtain ⟨hσ33, hfσ33, pσ33⟩ := pσ33
        have hFσ33 := zc_Fc hfσ33 rfl hFσ_7
        refine zr_iinc (pc := 36) hV [some (ZR 140), some (ZR row), some (ZI (x2_7 + (-1)))] (x2_7 + (-1)) dX6_undoStep_36 rfl rfl (by decide) rfl rfl ?_
        refine zr_goto (pc := 39) hV 7 dX6_undoStep_39 (by decide) ?_
        exact ih7 (x2_7 + (-1)) σ33 (by omega) hσ33 hFσ33 (by omega)
  exact L7 (((σ row 6) - 1) - (-1) + 1 : Int).toNat ((σ row 6) - 1) σ (by omega) hσ hFσ (by omega)
set_option maxHeartbeats 800000 in
theorem c_X6_goBack {σ : zq_S} (hσ : zc_T σ) (n : Int) (q0 : 1 ≤ n ∧ n ≤ 100) : zq_C zc_w yX6_goBack cX6_goBack 3 (some .int) 2 44 284 284 [ZR 140, ZI n] σ (zq_pi (fun r τ => zc_T τ ∧ zc_Fr [(140, 5), (140, 6), (140, 8), (140, 9), (140, 10), (140, 11), (140, 13), (140, 14), (141, 3), (141, 4), (142, -1), (143, -1), (254, -1)] σ τ ∧ (True))) := by
  refine zq_C_of (by decide) (Nat.le_refl _) (Nat.le_of_ble_eq_true rfl) [some (ZR 140), some (ZI n), none] rfl (fun V hV => ?_)
  have hFσ := zc_Fr_rf [(140, 5), (140, 6), (140, 8), (140, 9), (140, 10), (140, 11), (140, 13), (140, 14), (141, 3), (141, 4), (142, -1), (143, -1), (254, -1)] σ
  show V 0 [some (ZR 140), some (ZI n), none] [] 284 σ
  refine zr_iload_n (pc := 0) hV dX6_goBack_0 rfl rfl ?_
  refine zr_aload_n (pc := 1) hV dX6_goBack_1 rfl rfl ?_
  refine zr_getI (pc := 2) hV 5 dX6_goBack_2 fX6_65 rfl rfl (zc_k140 zc_s140) (zc_pos zc_s140 rfl) ?_
  have t1 := zc_g140_5 hσ zc_s140
  refine zr_icmp_le (pc := 5) hV 11 dX6_goBack_5 (by decide) (by omega) (by omega) (fun c2 => ?_) (fun c2 => ?_)
  · show V 11 [some (ZR 140), some (ZI n), none] [] 284 σ
    refine zr_iconst (pc := 11) hV 0 dX6_goBack_11 rfl ?_
    refine zr_istore_n (pc := 12) hV [some (ZR 140), some (ZI n), some (ZI 0)] dX6_goBack_12 rfl (by decide) rfl rfl ?_
    have L13 : ∀ (fuel : Nat) (x2_13 : Int) (σ_13 : zq_S), (0 ≤ x2_13 ∧ x2_13 ≤ 100) → (zc_T σ_13) → (zc_Fr [(140, 5), (140, 6), (140, 8), (140, 9), (140, 10), (140, 11), (140, 13), (140, 14), (141, 3), (141, 4), (142, -1), (143, -1), (254, -1)] σ σ_13) → (σ_13 140 5 + x2_13 = σ 140 5) → 100 - x2_13 < (fuel : Int) → V 13 [some (ZR 140), some (ZI n), some (ZI x2_13)] [] 284 σ_13 := by
      intro fuel
      induction fuel with
      | zero =>
        intro x2_13 σ_13 hx2_13 hσ_13 hFσ_13 hi13_0 hm13
        exfalso; omega
      | succ fuel ih =>
        intro x2_13 σ_13 hx2_13 hσ_13 hFσ_13 hi13_0 hm13
        have ih13 := ih
        show V 13 [some (ZR 140), some (ZI n), some (ZI x2_13)] [] 284 σ_13
        refine zr_iload_n (pc := 13) hV dX6_goBack_13 rfl rfl ?_
        refine zr_iload_n (pc := 14) hV dX6_goBack_14 rfl rfl ?_
        refine zr_icmp_ge (pc := 15) hV 63 dX6_goBack_15 (by decide) (by omega) (by omega) (fun c3 => ?_) (fun c3 => ?_)
        · show V 63 [some (ZR 140), some (ZI n), some (ZI x2_13)] [] 284 σ_13
          refine zr_aload_n (pc := 63) hV dX6_goBack_63 rfl rfl ?_
          refine zr_callVv (pc := 64) hV [] (st := []) (c_X6_forgetLatest (σ := σ_13) hσ_13) dX6_goBack_64 mX6_68 (zc_k140 zc_s140) (zc_pos zc_s140 rfl) (by decide) (Nat.le_of_ble_eq_true rfl) (Nat.le_refl _) (fun σ64 pσ64 => ?_)
          obtain ⟨hσ64, hfσ64, pσ64⟩ := pσ64
          have hFσ64 := zc_Fc hfσ64 rfl hFσ_13
          refine zr_aload_n (pc := 67) hV dX6_goBack_67 rfl rfl ?_
          refine zr_getI (pc := 68) hV 5 dX6_goBack_68 fX6_65 rfl rfl (zc_k140 zc_s140) (zc_pos zc_s140 rfl) ?_
          have t4 := zc_g140_5 hσ64 zc_s140
          have t5 : σ64 140 5 = σ_13 140 5 := hfσ64 _ _ (zc_out_at zc_s140 rfl)
          exact zr_iret (pc := 71) hV dX6_goBack_71 rfl rfl ⟨_, rfl, (by omega), hσ64, hFσ64, trivial⟩
        · show V 18 [some (ZR 140), some (ZI n), some (ZI x2_13)] [] 284 σ_13
          refine zr_aload_n (pc := 18) hV dX6_goBack_18 rfl rfl ?_
          refine zr_aload_n (pc := 19) hV dX6_goBack_19 rfl rfl ?_
          refine zr_getI (pc := 20) hV 6 dX6_goBack_20 fX6_94 rfl rfl (zc_k140 zc_s140) (zc_pos zc_s140 rfl) ?_
          have t6 := zc_g140_6 hσ_13 zc_s140
          refine zr_bipush (pc := 23) hV 100 dX6_goBack_23 (by decide) ?_
          refine zr_iadd (pc := 25) hV dX6_goBack_25 ?_
          refine zr_iconst (pc := 26) hV 1 dX6_goBack_26 rfl ?_
          refine zr_isub (pc := 27) hV dX6_goBack_27 ?_
          refine zr_bipush (pc := 28) hV 100 dX6_goBack_28 (by decide) ?_
          refine zr_irem (pc := 30) hV dX6_goBack_30 ⟨by decide, by decide⟩ (by omega) ?_
          have t7 := zq_rem_c (x := ((σ_13 140 6) + 100) - 1) 100 (by decide) (by omega)
          refine zr_putI (pc := 31) hV 6 dX6_goBack_31 fX6_94 rfl rfl rfl (zc_k140 zc_s140) (zc_pos zc_s140 rfl) (fun σ31 eσ31 => ?_)
          have hσ31 : zc_T σ31 := zc_u140_6 eσ31 hσ_13 zc_s140 (by omega)
          have hFσ31 := zc_Fw eσ31 zc_s140 rfl hFσ_13
          refine zr_aload_n (pc := 34) hV dX6_goBack_34 rfl rfl ?_
          refine zr_dup (pc := 35) hV dX6_goBack_35 (fun _ => rfl) ?_
          refine zr_getI (pc := 36) hV 5 dX6_goBack_36 fX6_65 rfl rfl (zc_k140 zc_s140) (zc_pos zc_s140 rfl) ?_
          have t8 := zc_g140_5 hσ31 zc_s140
          have t9 : σ31 140 5 = σ_13 140 5 := by rw [eσ31]; exact zq_up_ne (by omega)
          refine zr_iconst (pc := 39) hV 1 dX6_goBack_39 rfl ?_
          refine zr_isub (pc := 40) hV dX6_goBack_40 ?_
          refine zr_putI (pc := 41) hV 5 dX6_goBack_41 fX6_65 rfl rfl rfl (zc_k140 zc_s140) (zc_pos zc_s140 rfl) (fun σ41 eσ41 => ?_)
          have hσ41 : zc_T σ41 := zc_u140_5 eσ41 hσ31 zc_s140 (by omega)
          have hFσ41 := zc_Fw eσ41 zc_s140 rfl hFσ31
          refine zr_aload_n (pc := 44) hV dX6_goBack_44 rfl rfl ?_
          refine zr_aload_n (pc := 45) hV dX6_goBack_45 rfl rfl ?_
          refine zr_getR (pc := 46) hV 4 153 dX6_goBack_46 fX6_25 rfl rfl (zc_k140 zc_s140) (zc_pos zc_s140 rfl) (zc_g140_4 hσ41 zc_s140) (by decide) ?_
          refine zr_aload_n (pc := 49) hV dX6_goBack_49 rfl rfl ?_
          refine zr_getI (pc := 50) hV 6 dX6_goBack_50 fX6_94 rfl rfl (zc_k140 zc_s140) (zc_pos zc_s140 rfl) ?_
          have t10 := zc_g140_6 hσ41 zc_s140
          have t11 : σ41 140 6 = σ31 140 6 := by rw [eσ41]; exact zq_up_ne (by omega)
          have t12 : σ31 140 6 = zq_rem (((σ_13 140 6) + 100) - 1) 100 := by rw [eσ31]; exact zq_up_same _ _ _ _
          have ga53 : σ41 153 (σ41 140 6) = 154 + (σ41 140 6) := zc_ga153 hσ41 zc_s153 (σ41 140 6) (by omega) (by omega)
          refine zr_aald (pc := 53) hV dX6_goBack_53 (zc_k153 zc_s153) (Or.inr rfl) (zc_pos zc_s153 rfl) rfl (by omega) (by omega) ?_
          obtain ⟨o53, eo53⟩ : ∃ o, σ41 153 (σ41 140 6) = o := ⟨_, rfl⟩
          rw [eo53] at ga53 ⊢
          have ko53 : zc_kd o53 = 154 := ga53 ▸ zc_e154 (by omega) (by omega)
          have po53 := zc_pos ko53 rfl
          show V 54 [some (ZR 140), some (ZI n), some (ZI x2_13)] [ZR o53, ZR 140] 284 σ41
          refine zr_callVv (pc := 54) hV [ZR o53] (st := []) (c_X6_undoStep (σ := σ41) hσ41 o53 ko53) dX6_goBack_54 mX6_141 (zc_k140 zc_s140) (zc_pos zc_s140 rfl) (by decide) (Nat.le_of_ble_eq_true rfl) (Nat.le_refl _) (fun σ54 pσ54 => ?_)
          obtain ⟨hσ54, hfσ54, pσ54⟩ := pσ54
          have hFσ54 := zc_Fc hfσ54 rfl hFσ41
          refine zr_iinc (pc := 57) hV [some (ZR 140), some (ZI n), some (ZI (x2_13 + 1))] (x2_13 + 1) dX6_goBack_57 rfl rfl (by decide) rfl rfl ?_
          refine zr_goto (pc := 60) hV 13 dX6_goBack_60 (by decide) ?_
          have t13 := zc_g140_5 hσ54 zc_s140
          have t14 : σ54 140 5 = σ41 140 5 := hfσ54 _ _ (zc_out_at zc_s140 rfl)
          have t15 : σ41 140 5 = (σ31 140 5) - 1 := by rw [eσ41]; exact zq_up_same _ _ _ _
          exact ih13 (x2_13 + 1) σ54 (by omega) hσ54 hFσ54 (by omega) (by omega)
    have t16 := zc_g140_5 hσ zc_s140
    exact L13 (100 - (0 : Int) + 1 : Int).toNat 0 σ (by omega) hσ hFσ (by omega) (by omega)
  · show V 8 [some (ZR 140), some (ZI n), none] [] 284 σ
    refine zr_bipush (pc := 8) hV (-2) dX6_goBack_8 (by decide) ?_
    exact zr_iret (pc := 10) hV dX6_goBack_10 rfl rfl ⟨_, rfl, ⟨by decide, by decide⟩, hσ, hFσ, trivial⟩
set_option maxHeartbeats 800000 in
theorem c_X6_tryStep {σ : zq_S} (hσ : zc_T σ)   : zq_C zc_w yX6_tryStep cX6_tryStep 3 (some .boolean) 5 111 284 284 [ZR 140] σ (zq_pi (fun r τ => zc_T τ ∧ zc_Fr [(147, 3), (147, 4), (147, 6), (148, -1), (149, -1), (150, -1), (151, -1), (152, -1)] σ τ ∧ ((0 ≤ r ∧ r ≤ 1)))) := by
  refine zq_C_of (by decide) (Nat.le_refl _) (Nat.le_of_ble_eq_true rfl) [some (ZR 140), none, none] rfl (fun V hV => ?_)
  have hFσ := zc_Fr_rf [(147, 3), (147, 4), (147, 6), (148, -1), (149, -1), (150, -1), (151, -1), (152, -1)] σ
  show V 0 [some (ZR 140), none, none] [] 284 σ
  refine zr_aload_n (pc := 0) hV dX6_tryStep_0 rfl rfl ?_
  refine zr_getR (pc := 1) hV 1 139 dX6_tryStep_1 fX6_36 rfl rfl (zc_k140 zc_s140) (zc_pos zc_s140 rfl) (zc_g140_1 hσ zc_s140) (by decide) ?_
  refine zr_aload_n (pc := 4) hV dX6_tryStep_4 rfl rfl ?_
  refine zr_getR (pc := 5) hV 3 147 dX6_tryStep_5 fX6_20 rfl rfl (zc_k140 zc_s140) (zc_pos zc_s140 rfl) (zc_g140_3 hσ zc_s140) (by decide) ?_
  refine zr_getI (pc := 8) hV 4 dX6_tryStep_8 fX6_85 rfl rfl (zc_k147 zc_s147) (zc_pos zc_s147 rfl) ?_
  have t1 := zc_g147_4 hσ zc_s147
  refine zr_bipush (pc := 11) hV 63 dX6_tryStep_11 (by decide) ?_
  refine zr_iand (pc := 13) hV dX6_tryStep_13 ?_
  have t2 := zq_and_mask (σ 147 4) 6 63 64 (by decide) (by decide) (by decide)
  refine zr_iald (pc := 14) hV dX6_tryStep_14 (zc_k139 zc_s139) (zc_pos zc_s139 rfl) rfl (by omega) ?_
  have t3 := zc_ga139 hσ zc_s139 (zq_and (σ 147 4) 63)
  refine zr_istore_n (pc := 15) hV [some (ZR 140), some (ZI (σ 139 (zq_and (σ 147 4) 63))), none] dX6_tryStep_15 rfl (by decide) rfl rfl ?_
  refine zr_aload_n (pc := 16) hV dX6_tryStep_16 rfl rfl ?_
  refine zr_getR (pc := 17) hV 0 3 dX6_tryStep_17 fX6_32 rfl rfl (zc_k140 zc_s140) (zc_pos zc_s140 rfl) (zc_g140_0 hσ zc_s140) (by decide) ?_
  refine zr_iload_n (pc := 20) hV dX6_tryStep_20 rfl rfl ?_
  have t4 := zc_g147_4 hσ zc_s147
  refine zr_callVr (pc := 21) hV [ZI (σ 139 (zq_and (σ 147 4) 63))] (st := []) (c_X9_orderOf (σ := σ) hσ (σ 139 (zq_and (σ 147 4) 63)) (by omega)) dX6_tryStep_21 mX6_88 (zc_k3 zc_s3) (zc_pos zc_s3 rfl) (by decide) (Nat.le_of_ble_eq_true rfl) (Nat.le_refl _) (fun r21 pr21 => ?_)
  refine zr_astore_nQ (pc := 24) hV [some (ZR 140), some (ZI (σ 139 (zq_and (σ 147 4) 63))), some (zq_nr r21)] dX6_tryStep_24 rfl (by decide) rfl rfl ?_
  refine zr_aload_nQ (pc := 25) hV dX6_tryStep_25 rfl rfl ?_
  by_cases c5 : r21 < 0
  · rw [zq_nr_n c5]
    refine zr_ifnonnullN (pc := 26) hV dX6_tryStep_26 ?_
    show V 29 [some (ZR 140), some (ZI (σ 139 (zq_and (σ 147 4) 63))), some (ZN)] [] 284 σ
    refine zr_iconst (pc := 29) hV 0 dX6_tryStep_29 rfl ?_
    exact zr_zret (pc := 30) hV dX6_tryStep_30 rfl rfl (by omega) ⟨_, rfl, ⟨by decide, by decide⟩, hσ, hFσ, (by omega)⟩
  · rw [zq_nr_p c5]
    have kr21 : zc_kd r21 = 4 := pr21.1 (by omega)
    have por21 := zc_pos kr21 rfl
    refine zr_ifnonnull (pc := 26) hV 31 dX6_tryStep_26 (by decide) ?_
    show V 31 [some (ZR 140), some (ZI (σ 139 (zq_and (σ 147 4) 63))), some (ZR r21)] [] 284 σ
    refine zr_aload_n (pc := 31) hV dX6_tryStep_31 rfl rfl ?_
    refine zr_getR (pc := 32) hV 3 147 dX6_tryStep_32 fX6_20 rfl rfl (zc_k140 zc_s140) (zc_pos zc_s140 rfl) (zc_g140_3 hσ zc_s140) (by decide) ?_
    refine zr_aload_n (pc := 35) hV dX6_tryStep_35 rfl rfl ?_
    refine zr_iload_n (pc := 36) hV dX6_tryStep_36 rfl rfl ?_
    have t6 := zc_g147_4 hσ zc_s147
    refine zr_callVv (pc := 37) hV [ZR r21, ZI (σ 139 (zq_and (σ 147 4) 63))] (st := []) (c_X10_perform_t (σ := σ) hσ r21 kr21 (σ 139 (zq_and (σ 147 4) 63)) (by omega)) dX6_tryStep_37 mX6_101 (zc_k147 zc_s147) (zc_pos zc_s147 rfl) (by decide) (Nat.le_of_ble_eq_true rfl) (Nat.le_refl _) (fun σ37 pσ37 => ?_)
    obtain ⟨hσ37, hfσ37, pσ37⟩ := pσ37
    have hFσ37 := zc_Fc hfσ37 rfl hFσ
    refine zr_iconst (pc := 40) hV 1 dX6_tryStep_40 rfl ?_
    exact zr_zret (pc := 41) hV dX6_tryStep_41 rfl rfl (by omega) ⟨_, rfl, ⟨by decide, by decide⟩, hσ37, hFσ37, (by omega)⟩
set_option maxHeartbeats 800000 in
theorem c_X6_isSo {σ : zq_S} (hσ : zc_T σ) (items : Int) (kitems : zc_kd items = 280) (at_ : Int) (q0 : 0 ≤ at_ ∧ at_ ≤ 27) : zq_C zc_w yX6_isSo cX6_isSo 4 (some .boolean) 1 20 284 284 [ZR 140, ZR items, ZI at_] σ (zq_pp σ (fun r => (0 ≤ r ∧ r ≤ 1))) := by
  refine zq_C_of (by decide) (Nat.le_refl _) (Nat.le_of_ble_eq_true rfl) [some (ZR 140), some (ZR items), some (ZI at_), none] rfl (fun V hV => ?_)
  have poitems := zc_pos kitems rfl
  show V 0 [some (ZR 140), some (ZR items), some (ZI at_), none] [] 284 σ
  refine zr_aload_n (pc := 0) hV dX6_isSo_0 rfl rfl ?_
  refine zr_iload_n (pc := 1) hV dX6_isSo_1 rfl rfl ?_
  refine zr_iconst (pc := 2) hV 1 dX6_isSo_2 rfl ?_
  refine zr_iadd (pc := 3) hV dX6_isSo_3 ?_
  refine zr_iald (pc := 4) hV dX6_isSo_4 (zc_k280 kitems) (zc_pos kitems rfl) rfl (by omega) ?_
  have t1 := zc_ga280 hσ kitems (at_ + 1)
  refine zr_istore_n (pc := 5) hV [some (ZR 140), some (ZR items), some (ZI at_), some (ZI (σ items (at_ + 1)))] dX6_isSo_5 rfl (by decide) rfl rfl ?_
  refine zr_aload_n (pc := 6) hV dX6_isSo_6 rfl rfl ?_
  refine zr_iload_n (pc := 7) hV dX6_isSo_7 rfl rfl ?_
  refine zr_iald (pc := 8) hV dX6_isSo_8 (zc_k280 kitems) (zc_pos kitems rfl) rfl (by omega) ?_
  have t2 := zc_ga280 hσ kitems at_
  refine zr_aload_n (pc := 9) hV dX6_isSo_9 rfl rfl ?_
  refine zr_getR (pc := 10) hV 3 147 dX6_isSo_10 fX6_20 rfl rfl (zc_k140 zc_s140) (zc_pos zc_s140 rfl) (zc_g140_3 hσ zc_s140) (by decide) ?_
  refine zr_getI (pc := 13) hV 4 dX6_isSo_13 fX6_85 rfl rfl (zc_k147 zc_s147) (zc_pos zc_s147 rfl) ?_
  have t3 := zc_g147_4 hσ zc_s147
  refine zr_icmp_ne (pc := 16) hV 55 dX6_isSo_16 (by decide) (by omega) (by omega) (fun c4 => ?_) (fun c4 => ?_)
  · show V 55 [some (ZR 140), some (ZR items), some (ZI at_), some (ZI (σ items (at_ + 1)))] [] 284 σ
    refine zr_iconst (pc := 55) hV 0 dX6_isSo_55 rfl ?_
    show V 56 [some (ZR 140), some (ZR items), some (ZI at_), some (ZI (σ items (at_ + 1)))] [ZI 0] 284 σ
    exact zr_zret (pc := 56) hV dX6_isSo_56 rfl rfl (by omega) ⟨rfl, _, rfl, ⟨by decide, by decide⟩, (by omega)⟩
  · show V 19 [some (ZR 140), some (ZR items), some (ZI at_), some (ZI (σ items (at_ + 1)))] [] 284 σ
    refine zr_iload_n (pc := 19) hV dX6_isSo_19 rfl rfl ?_
    refine zr_if_lt (pc := 20) hV 55 dX6_isSo_20 (by decide) (by omega) (fun c5 => ?_) (fun c5 => ?_)
    · show V 55 [some (ZR 140), some (ZR items), some (ZI at_), some (ZI (σ items (at_ + 1)))] [] 284 σ
      refine zr_iconst (pc := 55) hV 0 dX6_isSo_55 rfl ?_
      show V 56 [some (ZR 140), some (ZR items), some (ZI at_), some (ZI (σ items (at_ + 1)))] [ZI 0] 284 σ
      exact zr_zret (pc := 56) hV dX6_isSo_56 rfl rfl (by omega) ⟨rfl, _, rfl, ⟨by decide, by decide⟩, (by omega)⟩
    · show V 23 [some (ZR 140), some (ZR items), some (ZI at_), some (ZI (σ items (at_ + 1)))] [] 284 σ
      refine zr_iload_n (pc := 23) hV dX6_isSo_23 rfl rfl ?_
      refine zr_aload_n (pc := 24) hV dX6_isSo_24 rfl rfl ?_
      refine zr_getR (pc := 25) hV 0 3 dX6_isSo_25 fX6_32 rfl rfl (zc_k140 zc_s140) (zc_pos zc_s140 rfl) (zc_g140_0 hσ zc_s140) (by decide) ?_
      refine zr_callVp (pc := 28) hV [] (st := [ZI (σ items (at_ + 1))]) (c_X9_registers (σ := σ) hσ) dX6_isSo_28 mX6_159 (zc_k3 zc_s3) (zc_pos zc_s3 rfl) (by decide) (Nat.le_of_ble_eq_true rfl) (Nat.le_refl _) (fun r28 hr28 pr28 => ?_)
      refine zr_icmp_ge (pc := 31) hV 55 dX6_isSo_31 (by decide) (by omega) (by omega) (fun c6 => ?_) (fun c6 => ?_)
      · show V 55 [some (ZR 140), some (ZR items), some (ZI at_), some (ZI (σ items (at_ + 1)))] [] 284 σ
        refine zr_iconst (pc := 55) hV 0 dX6_isSo_55 rfl ?_
        show V 56 [some (ZR 140), some (ZR items), some (ZI at_), some (ZI (σ items (at_ + 1)))] [ZI 0] 284 σ
        exact zr_zret (pc := 56) hV dX6_isSo_56 rfl rfl (by omega) ⟨rfl, _, rfl, ⟨by decide, by decide⟩, (by omega)⟩
      · show V 34 [some (ZR 140), some (ZR items), some (ZI at_), some (ZI (σ items (at_ + 1)))] [] 284 σ
        refine zr_aload_n (pc := 34) hV dX6_isSo_34 rfl rfl ?_
        refine zr_iload_n (pc := 35) hV dX6_isSo_35 rfl rfl ?_
        refine zr_iconst (pc := 36) hV 2 dX6_isSo_36 rfl ?_
        refine zr_iadd (pc := 37) hV dX6_isSo_37 ?_
        refine zr_iald (pc := 38) hV dX6_isSo_38 (zc_k280 kitems) (zc_pos kitems rfl) rfl (by omega) ?_
        have t7 := zc_ga280 hσ kitems (at_ + 2)
        refine zr_aload_n (pc := 39) hV dX6_isSo_39 rfl rfl ?_
        refine zr_getR (pc := 40) hV 3 147 dX6_isSo_40 fX6_20 rfl rfl (zc_k140 zc_s140) (zc_pos zc_s140 rfl) (zc_g140_3 hσ zc_s140) (by decide) ?_
        refine zr_getR (pc := 43) hV 1 148 dX6_isSo_43 fX6_163 rfl rfl (zc_k147 zc_s147) (zc_pos zc_s147 rfl) (zc_g147_1 hσ zc_s147) (by decide) ?_
        refine zr_iload_n (pc := 46) hV dX6_isSo_46 rfl rfl ?_
        refine zr_iald (pc := 47) hV dX6_isSo_47 (zc_k148 zc_s148) (zc_pos zc_s148 rfl) rfl (by omega) ?_
        have t8 := zc_ga148 hσ zc_s148 (σ items (at_ + 1))
        refine zr_icmp_ne (pc := 48) hV 55 dX6_isSo_48 (by decide) (by omega) (by omega) (fun c9 => ?_) (fun c9 => ?_)
        · show V 55 [some (ZR 140), some (ZR items), some (ZI at_), some (ZI (σ items (at_ + 1)))] [] 284 σ
          refine zr_iconst (pc := 55) hV 0 dX6_isSo_55 rfl ?_
          show V 56 [some (ZR 140), some (ZR items), some (ZI at_), some (ZI (σ items (at_ + 1)))] [ZI 0] 284 σ
          exact zr_zret (pc := 56) hV dX6_isSo_56 rfl rfl (by omega) ⟨rfl, _, rfl, ⟨by decide, by decide⟩, (by omega)⟩
        · show V 51 [some (ZR 140), some (ZR items), some (ZI at_), some (ZI (σ items (at_ + 1)))] [] 284 σ
          refine zr_iconst (pc := 51) hV 1 dX6_isSo_51 rfl ?_
          refine zr_goto (pc := 52) hV 56 dX6_isSo_52 (by decide) ?_
          show V 56 [some (ZR 140), some (ZR items), some (ZI at_), some (ZI (σ items (at_ + 1)))] [ZI 1] 284 σ
          exact zr_zret (pc := 56) hV dX6_isSo_56 rfl rfl (by omega) ⟨rfl, _, rfl, ⟨by decide, by decide⟩, (by omega)⟩
set_option maxHeartbeats 800000 in
theorem c_X6_holdAgainst {σ : zq_S} (hσ : zc_T σ) (items : Int) (kitems : zc_kd items = 280) (from_ : Int) (n : Int) (q0 : 0 ≤ from_ ∧ from_ ≤ 30) (q1 : 0 ≤ n ∧ n ≤ 10) (q2 : from_ + 3 * n ≤ 30) : zq_C zc_w yX6_holdAgainst cX6_holdAgainst 5 (some .int) 6 133 284 284 [ZR 140, ZR items, ZI from_, ZI n] σ (zq_pi (fun r τ => zc_T τ ∧ zc_Fr [(147, 0), (147, 3), (147, 4), (147, 6), (148, -1), (149, -1), (150, -1), (151, -1), (152, -1)] σ τ ∧ (True))) := by
  refine zq_C_of (by decide) (Nat.le_refl _) (Nat.le_of_ble_eq_true rfl) [some (ZR 140), some (ZR items), some (ZI from_), some (ZI n), none] rfl (fun V hV => ?_)
  have poitems := zc_pos kitems rfl
  have hFσ := zc_Fr_rf [(147, 0), (147, 3), (147, 4), (147, 6), (148, -1), (149, -1), (150, -1), (151, -1), (152, -1)] σ
  show V 0 [some (ZR 140), some (ZR items), some (ZI from_), some (ZI n), none] [] 284 σ
  refine zr_aload_n (pc := 0) hV dX6_holdAgainst_0 rfl rfl ?_
  refine zr_getR (pc := 1) hV 3 147 dX6_holdAgainst_1 fX6_20 rfl rfl (zc_k140 zc_s140) (zc_pos zc_s140 rfl) (zc_g140_3 hσ zc_s140) (by decide) ?_
  refine zr_aload_n (pc := 4) hV dX6_holdAgainst_4 rfl rfl ?_
  refine zr_getR (pc := 5) hV 2 141 dX6_holdAgainst_5 fX6_16 rfl rfl (zc_k140 zc_s140) (zc_pos zc_s140 rfl) (zc_g140_2 hσ zc_s140) (by decide) ?_
  refine zr_callVv (pc := 8) hV [ZR 141] (st := []) (c_X10_copyOf (σ := σ) hσ) dX6_holdAgainst_8 mX6_148 (zc_k147 zc_s147) (zc_pos zc_s147 rfl) (by decide) (Nat.le_of_ble_eq_true rfl) (Nat.le_refl _) (fun σ8 pσ8 => ?_)
  obtain ⟨hσ8, hfσ8, pσ8⟩ := pσ8
  have hFσ8 := zc_Fc hfσ8 rfl hFσ
  refine zr_iconst (pc := 11) hV 0 dX6_holdAgainst_11 rfl ?_
  refine zr_istore (pc := 12) hV [some (ZR 140), some (ZR items), some (ZI from_), some (ZI n), some (ZI 0)] dX6_holdAgainst_12 (by decide) rfl rfl ?_
  have L14 : ∀ (fuel : Nat) (x4_14 : Int) (σ_14 : zq_S), (0 ≤ x4_14 ∧ x4_14 ≤ 10) → (zc_T σ_14) → (zc_Fr [(147, 0), (147, 3), (147, 4), (147, 6), (148, -1), (149, -1), (150, -1), (151, -1), (152, -1)] σ σ_14) → 10 - x4_14 < (fuel : Int) → V 14 [some (ZR 140), some (ZR items), some (ZI from_), some (ZI n), some (ZI x4_14)] [] 284 σ_14 := by
    intro fuel
    induction fuel with
    | zero =>
      intro x4_14 σ_14 hx4_14 hσ_14 hFσ_14 hm14
      exfalso; omega
    | succ fuel ih =>
      intro x4_14 σ_14 hx4_14 hσ_14 hFσ_14 hm14
      have ih14 := ih
      show V 14 [some (ZR 140), some (ZR items), some (ZI from_), some (ZI n), some (ZI x4_14)] [] 284 σ_14
      refine zr_iload (pc := 14) hV dX6_holdAgainst_14 rfl ?_
      refine zr_iload_n (pc := 16) hV dX6_holdAgainst_16 rfl rfl ?_
      refine zr_icmp_ge (pc := 17) hV 58 dX6_holdAgainst_17 (by decide) (by omega) (by omega) (fun c1 => ?_) (fun c1 => ?_)
      · show V 58 [some (ZR 140), some (ZR items), some (ZI from_), some (ZI n), some (ZI x4_14)] [] 284 σ_14
        refine zr_iload_n (pc := 58) hV dX6_holdAgainst_58 rfl rfl ?_
        exact zr_iret (pc := 59) hV dX6_holdAgainst_59 rfl rfl ⟨_, rfl, (by omega), hσ_14, hFσ_14, trivial⟩
      · show V 20 [some (ZR 140), some (ZR items), some (ZI from_), some (ZI n), some (ZI x4_14)] [] 284 σ_14
        refine zr_iload (pc := 20) hV dX6_holdAgainst_20 rfl ?_
        refine zr_if_le (pc := 22) hV 35 dX6_holdAgainst_22 (by decide) (by omega) (fun c2 => ?_) (fun c2 => ?_)
        · show V 35 [some (ZR 140), some (ZR items), some (ZI from_), some (ZI n), some (ZI x4_14)] [] 284 σ_14
          refine zr_aload_n (pc := 35) hV dX6_holdAgainst_35 rfl rfl ?_
          refine zr_aload_n (pc := 36) hV dX6_holdAgainst_36 rfl rfl ?_
          refine zr_iload_n (pc := 37) hV dX6_holdAgainst_37 rfl rfl ?_
          refine zr_iconst (pc := 38) hV 3 dX6_holdAgainst_38 rfl ?_
          refine zr_iload (pc := 39) hV dX6_holdAgainst_39 rfl ?_
          refine zr_imul (pc := 41) hV dX6_holdAgainst_41 ?_
          refine zr_iadd (pc := 42) hV dX6_holdAgainst_42 ?_
          refine zr_callVp (pc := 43) hV [ZR items, ZI (from_ + (3 * x4_14))] (st := []) (c_X6_isSo (σ := σ_14) hσ_14 items kitems (from_ + (3 * x4_14)) (by omega)) dX6_holdAgainst_43 mX6_155 (zc_k140 zc_s140) (zc_pos zc_s140 rfl) (by decide) (Nat.le_of_ble_eq_true rfl) (Nat.le_refl _) (fun r43 hr43 pr43 => ?_)
          refine zr_if_ne (pc := 46) hV 52 dX6_holdAgainst_46 (by decide) (by omega) (fun c3 => ?_) (fun c3 => ?_)
          · show V 52 [some (ZR 140), some (ZR items), some (ZI from_), some (ZI n), some (ZI x4_14)] [] 284 σ_14
            refine zr_iinc (pc := 52) hV [some (ZR 140), some (ZR items), some (ZI from_), some (ZI n), some (ZI (x4_14 + 1))] (x4_14 + 1) dX6_holdAgainst_52 rfl rfl (by decide) rfl rfl ?_
            refine zr_goto (pc := 55) hV 14 dX6_holdAgainst_55 (by decide) ?_
            exact ih14 (x4_14 + 1) σ_14 (by omega) hσ_14 hFσ_14 (by omega)
          · show V 49 [some (ZR 140), some (ZR items), some (ZI from_), some (ZI n), some (ZI x4_14)] [] 284 σ_14
            refine zr_iload (pc := 49) hV dX6_holdAgainst_49 rfl ?_
            exact zr_iret (pc := 51) hV dX6_holdAgainst_51 rfl rfl ⟨_, rfl, (by omega), hσ_14, hFσ_14, trivial⟩
        · show V 25 [some (ZR 140), some (ZR items), some (ZI from_), some (ZI n), some (ZI x4_14)] [] 284 σ_14
          refine zr_aload_n (pc := 25) hV dX6_holdAgainst_25 rfl rfl ?_
          refine zr_callVi (pc := 26) hV [] (st := []) (c_X6_tryStep (σ := σ_14) hσ_14) dX6_holdAgainst_26 mX6_152 (zc_k140 zc_s140) (zc_pos zc_s140 rfl) (by decide) (Nat.le_of_ble_eq_true rfl) (Nat.le_refl _) (fun r26 σ26 hr26 pσ26 => ?_)
          obtain ⟨hσ26, hfσ26, pσ26⟩ := pσ26
          have hFσ26 := zc_Fc hfσ26 rfl hFσ_14
          refine zr_if_ne (pc := 29) hV 35 dX6_holdAgainst_29 (by decide) (by omega) (fun c4 => ?_) (fun c4 => ?_)
          · show V 35 [some (ZR 140), some (ZR items), some (ZI from_), some (ZI n), some (ZI x4_14)] [] 284 σ26
            refine zr_aload_n (pc := 35) hV dX6_holdAgainst_35 rfl rfl ?_
            refine zr_aload_n (pc := 36) hV dX6_holdAgainst_36 rfl rfl ?_
            refine zr_iload_n (pc := 37) hV dX6_holdAgainst_37 rfl rfl ?_
            refine zr_iconst (pc := 38) hV 3 dX6_holdAgainst_38 rfl ?_
            refine zr_iload (pc := 39) hV dX6_holdAgainst_39 rfl ?_
            refine zr_imul (pc := 41) hV dX6_holdAgainst_41 ?_
            refine zr_iadd (pc := 42) hV dX6_holdAgainst_42 ?_
            refine zr_callVp (pc := 43) hV [ZR items, ZI (from_ + (3 * x4_14))] (st := []) (c_X6_isSo (σ := σ26) hσ26 items kitems (from_ + (3 * x4_14)) (by omega)) dX6_holdAgainst_43 mX6_155 (zc_k140 zc_s140) (zc_pos zc_s140 rfl) (by decide) (Nat.le_of_ble_eq_true rfl) (Nat.le_refl _) (fun r43 hr43 pr43 => ?_)
            refine zr_if_ne (pc := 46) hV 52 dX6_holdAgainst_46 (by decide) (by omega) (fun c5 => ?_) (fun c5 => ?_)
            · show V 52 [some (ZR 140), some (ZR items), some (ZI from_), some (ZI n), some (ZI x4_14)] [] 284 σ26
              refine zr_iinc (pc := 52) hV [some (ZR 140), some (ZR items), some (ZI from_), some (ZI n), some (ZI (x4_14 + 1))] (x4_14 + 1) dX6_holdAgainst_52 rfl rfl (by decide) rfl rfl ?_
              refine zr_goto (pc := 55) hV 14 dX6_holdAgainst_55 (by decide) ?_
              exact ih14 (x4_14 + 1) σ26 (by omega) hσ26 hFσ26 (by omega)
            · show V 49 [some (ZR 140), some (ZR items), some (ZI from_), some (ZI n), some (ZI x4_14)] [] 284 σ26
              refine zr_iload (pc := 49) hV dX6_holdAgainst_49 rfl ?_
              exact zr_iret (pc := 51) hV dX6_holdAgainst_51 rfl rfl ⟨_, rfl, (by omega), hσ26, hFσ26, trivial⟩
          · show V 32 [some (ZR 140), some (ZR items), some (ZI from_), some (ZI n), some (ZI x4_14)] [] 284 σ26
            refine zr_iload (pc := 32) hV dX6_holdAgainst_32 rfl ?_
            exact zr_iret (pc := 34) hV dX6_holdAgainst_34 rfl rfl ⟨_, rfl, (by omega), hσ26, hFσ26, trivial⟩
  exact L14 (10 - (0 : Int) + 1 : Int).toNat 0 σ8 (by omega) hσ8 hFσ8 (by omega)

