set_option maxHeartbeats 800000 in
theorem c_X9_registers_2 {σ : zq_S} (hσ : zc_T σ)   : zq_C zc_w yX9_registers cX9_registers 1 (some .int) 0 0 284 284 [ZR 3] σ (zq_pp σ (fun r => (1 ≤ r ∧ r ≤ 8) ∧ r = zq_shl 1 (σ 3 1))) := by
  refine zq_C_of (by decide) (Nat.le_refl _) (Nat.le_of_ble_eq_true rfl) [some (ZR 3)] rfl (fun V hV => ?_)
  show V 0 [some (ZR 3)] [] 284 σ
  refine zr_iconst (pc := 0) hV 1 dX9_registers_0 rfl ?_
  refine zr_aload_n (pc := 1) hV dX9_registers_1 rfl rfl ?_
  refine zr_getI (pc := 2) hV 1 dX9_registers_2 fX9_30 rfl rfl (zc_k3 zc_s3) (zc_pos zc_s3 rfl) ?_
  have t1 := zc_g3_1 hσ zc_s3
  refine zr_ishl (pc := 5) hV dX9_registers_5 ?_
  have t2 := zx_shl_one (y := σ 3 1) 3 8 (by decide) (by decide) (by omega)
  exact zr_iret (pc := 6) hV dX9_registers_6 rfl rfl ⟨rfl, _, rfl, (by omega), (by omega)⟩
set_option maxHeartbeats 800000 in
theorem c_X1_useVariables_2 {σ : zq_S} (hσ : zc_T σ) (v : Int) (q0 : 0 ≤ v ∧ v ≤ 8) (Uσ : zc_U σ) : zq_C zc_w yX1_useVariables cX1_useVariables 2 (none) 0 0 284 284 [ZR 255, ZI v] σ (zq_pv (fun τ => zc_T τ ∧ zc_Fr [(255, 3), (255, 4)] σ τ ∧ (τ 255 4 = v) ∧ zc_U τ)) := by
  refine zq_C_of (by decide) (Nat.le_refl _) (Nat.le_of_ble_eq_true rfl) [some (ZR 255), some (ZI v)] rfl (fun V hV => ?_)
  have hFσ := zc_Fr_rf [(255, 3), (255, 4)] σ
  show V 0 [some (ZR 255), some (ZI v)] [] 284 σ
  refine zr_aload_n (pc := 0) hV dX1_useVariables_0 rfl rfl ?_
  refine zr_iload_n (pc := 1) hV dX1_useVariables_1 rfl rfl ?_
  refine zr_putI (pc := 2) hV 4 dX1_useVariables_2 fX1_38 rfl rfl rfl (zc_k255 zc_s255) (zc_pos zc_s255 rfl) (fun σ2 eσ2 => ?_)
  have hσ2 : zc_T σ2 := zc_u255_4 eσ2 hσ zc_s255 (by omega)
  have hFσ2 := zc_Fw eσ2 zc_s255 rfl hFσ
  have Uσ2 : zc_U σ2 := zc_U_fr (zc_Fw eσ2 zc_s255 rfl (zc_Fr_rf [(255, 4)] _)) rfl hσ Uσ
  refine zr_aload_n (pc := 5) hV dX1_useVariables_5 rfl rfl ?_
  refine zr_iconst (pc := 6) hV 0 dX1_useVariables_6 rfl ?_
  refine zr_putZ (pc := 7) hV 3 dX1_useVariables_7 fX1_42 rfl rfl rfl (by omega) (zc_k255 zc_s255) (zc_pos zc_s255 rfl) (fun σ7 eσ7 => ?_)
  have hσ7 : zc_T σ7 := zc_u255_3 eσ7 hσ2 zc_s255 (by omega)
  have hFσ7 := zc_Fw eσ7 zc_s255 rfl hFσ2
  have Uσ7 : zc_U σ7 := zc_U_no eσ7 Uσ2.1
  have t1 := zc_g255_4 hσ7 zc_s255
  have t2 : σ7 255 4 = σ2 255 4 := by rw [eσ7]; exact zq_up_ne (by omega)
  have t3 : σ2 255 4 = v := by rw [eσ2]; exact zq_up_same _ _ _ _
  exact zr_vret (pc := 10) hV dX1_useVariables_10 rfl rfl ⟨rfl, hσ7, hFσ7, (by omega), Uσ7⟩
set_option maxHeartbeats 800000 in
theorem c_X11_flush_2 {σ : zq_S} (hσ : zc_T σ) (f : Int) (q0 : zq_in f) (Uσ : zc_U σ) : zq_C zc_w yX11_flush cX11_flush 3 (some .int) 1 22 284 284 [ZR 0, ZI f] σ (zq_pi (fun r τ => zc_T τ ∧ zc_Fr [(140, 12)] σ τ ∧ ((0 ≤ f ∧ f ≤ 9 → r = σ 140 12 ∧ τ 140 12 = f) ∧ (¬ (0 ≤ f ∧ f ≤ 9) → r = -1 ∧ τ 140 12 = σ 140 12)) ∧ zc_U τ)) := by
  refine zq_C_of (by decide) (Nat.le_refl _) (Nat.le_of_ble_eq_true rfl) [some (ZR 0), some (ZI f), none] rfl (fun V hV => ?_)
  have hFσ := zc_Fr_rf [(140, 12)] σ
  show V 0 [some (ZR 0), some (ZI f), none] [] 284 σ
  refine zr_iload_n (pc := 0) hV dX11_flush_0 rfl rfl ?_
  refine zr_iconst (pc := 1) hV 0 dX11_flush_1 rfl ?_
  refine zr_bipush (pc := 2) hV 9 dX11_flush_2 (by decide) ?_
  refine zr_callSp (pc := 4) hV [ZI f, ZI 0, ZI 9] (st := []) (c_X11_within (σ := σ) f 0 9 (by omega) (by omega) (by omega)) dX11_flush_4 mX11_89 (by decide) (Nat.le_of_ble_eq_true rfl) (Nat.le_refl _) (fun r4 hr4 pr4 => ?_)
  refine zr_if_ne (pc := 7) hV 12 dX11_flush_7 (by decide) (by omega) (fun c1 => ?_) (fun c1 => ?_)
  · show V 12 [some (ZR 0), some (ZI f), none] [] 284 σ
    refine zr_aload_n (pc := 12) hV dX11_flush_12 rfl rfl ?_
    refine zr_getR (pc := 13) hV 5 140 dX11_flush_13 fX11_48 rfl rfl (zc_k0 zc_s0) (zc_pos zc_s0 rfl) (zc_g0_5 hσ zc_s0) (by decide) ?_
    refine zr_getI (pc := 16) hV 12 dX11_flush_16 fX11_159 rfl rfl (zc_k140 zc_s140) (zc_pos zc_s140 rfl) ?_
    have t2 := zc_g140_12 hσ zc_s140
    refine zr_istore_n (pc := 19) hV [some (ZR 0), some (ZI f), some (ZI (σ 140 12))] dX11_flush_19 rfl (by decide) rfl rfl ?_
    refine zr_aload_n (pc := 20) hV dX11_flush_20 rfl rfl ?_
    refine zr_getR (pc := 21) hV 5 140 dX11_flush_21 fX11_48 rfl rfl (zc_k0 zc_s0) (zc_pos zc_s0 rfl) (zc_g0_5 hσ zc_s0) (by decide) ?_
    refine zr_iload_n (pc := 24) hV dX11_flush_24 rfl rfl ?_
    refine zr_putI (pc := 25) hV 12 dX11_flush_25 fX11_159 rfl rfl rfl (zc_k140 zc_s140) (zc_pos zc_s140 rfl) (fun σ25 eσ25 => ?_)
    have hσ25 : zc_T σ25 := zc_u140_12 eσ25 hσ zc_s140 (by omega)
    have hFσ25 := zc_Fw eσ25 zc_s140 rfl hFσ
    have Uσ25 : zc_U σ25 := zc_U_fr (zc_Fw eσ25 zc_s140 rfl (zc_Fr_rf [(140, 12)] _)) rfl hσ Uσ
    refine zr_iload_n (pc := 28) hV dX11_flush_28 rfl rfl ?_
    have t3 := zc_g140_12 hσ25 zc_s140
    have t4 : σ25 140 12 = f := by rw [eσ25]; exact zq_up_same _ _ _ _
    exact zr_iret (pc := 29) hV dX11_flush_29 rfl rfl ⟨_, rfl, (by omega), hσ25, hFσ25, (by omega), Uσ25⟩
  · show V 10 [some (ZR 0), some (ZI f), none] [] 284 σ
    refine zr_iconst (pc := 10) hV (-1) dX11_flush_10 rfl ?_
    have t5 := zc_g140_12 hσ zc_s140
    exact zr_iret (pc := 11) hV dX11_flush_11 rfl rfl ⟨_, rfl, ⟨by decide, by decide⟩, hσ, hFσ, (by omega), Uσ⟩
set_option maxHeartbeats 800000 in
theorem c_X11_variables_2 {σ : zq_S} (hσ : zc_T σ) (v : Int) (q0 : zq_in v) (Uσ : zc_U σ) : zq_C zc_w yX11_variables cX11_variables 3 (some .int) 1 22 284 284 [ZR 0, ZI v] σ (zq_pi (fun r τ => zc_T τ ∧ zc_Fr [(255, 3), (255, 4)] σ τ ∧ ((1 ≤ v ∧ v ≤ zq_shl 1 (σ 3 1) → r = σ 255 4 ∧ τ 255 4 = v) ∧ (¬ (1 ≤ v ∧ v ≤ zq_shl 1 (σ 3 1)) → r = -1 ∧ τ 255 4 = σ 255 4)) ∧ zc_U τ)) := by
  refine zq_C_of (by decide) (Nat.le_refl _) (Nat.le_of_ble_eq_true rfl) [some (ZR 0), some (ZI v), none] rfl (fun V hV => ?_)
  have hFσ := zc_Fr_rf [(255, 3), (255, 4)] σ
  show V 0 [some (ZR 0), some (ZI v), none] [] 284 σ
  refine zr_iload_n (pc := 0) hV dX11_variables_0 rfl rfl ?_
  refine zr_iconst (pc := 1) hV 1 dX11_variables_1 rfl ?_
  refine zr_aload_n (pc := 2) hV dX11_variables_2 rfl rfl ?_
  refine zr_getR (pc := 3) hV 1 3 dX11_variables_3 fX11_19 rfl rfl (zc_k0 zc_s0) (zc_pos zc_s0 rfl) (zc_g0_1 hσ zc_s0) (by decide) ?_
  refine zr_callVp (pc := 6) hV [] (st := [ZI 1, ZI v]) (c_X9_registers_2 (σ := σ) hσ) dX11_variables_6 mX11_153 (zc_k3 zc_s3) (zc_pos zc_s3 rfl) (by decide) (Nat.le_of_ble_eq_true rfl) (Nat.le_refl _) (fun r6 hr6 pr6 => ?_)
  have t1 := zc_g3_1 hσ zc_s3
  refine zr_callSp (pc := 9) hV [ZI v, ZI 1, ZI r6] (st := []) (c_X11_within (σ := σ) v 1 r6 (by omega) (by omega) (by omega)) dX11_variables_9 mX11_89 (by decide) (Nat.le_of_ble_eq_true rfl) (Nat.le_refl _) (fun r9 hr9 pr9 => ?_)
  refine zr_if_ne (pc := 12) hV 17 dX11_variables_12 (by decide) (by omega) (fun c2 => ?_) (fun c2 => ?_)
  · show V 17 [some (ZR 0), some (ZI v), none] [] 284 σ
    refine zr_aload_n (pc := 17) hV dX11_variables_17 rfl rfl ?_
    refine zr_getR (pc := 18) hV 6 255 dX11_variables_18 fX11_57 rfl rfl (zc_k0 zc_s0) (zc_pos zc_s0 rfl) (zc_g0_6 hσ zc_s0) (by decide) ?_
    refine zr_getI (pc := 21) hV 4 dX11_variables_21 fX11_156 rfl rfl (zc_k255 zc_s255) (zc_pos zc_s255 rfl) ?_
    have t3 := zc_g255_4 hσ zc_s255
    refine zr_istore_n (pc := 24) hV [some (ZR 0), some (ZI v), some (ZI (σ 255 4))] dX11_variables_24 rfl (by decide) rfl rfl ?_
    refine zr_aload_n (pc := 25) hV dX11_variables_25 rfl rfl ?_
    refine zr_getR (pc := 26) hV 6 255 dX11_variables_26 fX11_57 rfl rfl (zc_k0 zc_s0) (zc_pos zc_s0 rfl) (zc_g0_6 hσ zc_s0) (by decide) ?_
    refine zr_iload_n (pc := 29) hV dX11_variables_29 rfl rfl ?_
    refine zr_callVv (pc := 30) hV [ZI v] (st := []) (c_X1_useVariables_2 (σ := σ) hσ v (by omega) Uσ) dX11_variables_30 mX11_86 (zc_k255 zc_s255) (zc_pos zc_s255 rfl) (by decide) (Nat.le_of_ble_eq_true rfl) (Nat.le_refl _) (fun σ30 pσ30 => ?_)
    obtain ⟨hσ30, hfσ30, pσ30, Uσ30⟩ := pσ30
    have hFσ30 := zc_Fc hfσ30 rfl hFσ
    have t4 := zc_g255_4 hσ30 zc_s255
    refine zr_iload_n (pc := 33) hV dX11_variables_33 rfl rfl ?_
    have t5 := zc_g255_4 hσ30 zc_s255
    exact zr_iret (pc := 34) hV dX11_variables_34 rfl rfl ⟨_, rfl, (by omega), hσ30, hFσ30, (by omega), Uσ30⟩
  · show V 15 [some (ZR 0), some (ZI v), none] [] 284 σ
    refine zr_iconst (pc := 15) hV (-1) dX11_variables_15 rfl ?_
    have t6 := zc_g255_4 hσ zc_s255
    exact zr_iret (pc := 16) hV dX11_variables_16 rfl rfl ⟨_, rfl, ⟨by decide, by decide⟩, hσ, hFσ, (by omega), Uσ⟩
set_option maxHeartbeats 800000 in
theorem c_X5_lay_2 {σ : zq_S} (hσ : zc_T σ) (sheet : Int) (lane : Int) (n : Int) (q0 : 0 ≤ sheet ∧ sheet ≤ 3) (q1 : 0 ≤ lane ∧ lane ≤ 2) (q2 : 0 ≤ n ∧ n ≤ 30) : zq_C zc_w yX5_lay cX5_lay 4 (some .int) 1 23 284 284 [ZR 276, ZI sheet, ZI lane, ZI n] σ (zq_pi (fun r τ => zc_T τ ∧ zc_Fr [(277, -1), (278, -1), (280, -1)] σ τ ∧ (r = n) ∧ zq_hid ((∀ j, τ 277 j = if j = sheet then lane else σ 277 j) ∧ (∀ j, τ 278 j = if j = sheet then n else σ 278 j)))) := by
  refine zq_C_of (by decide) (Nat.le_refl _) (Nat.le_of_ble_eq_true rfl) [some (ZR 276), some (ZI sheet), some (ZI lane), some (ZI n)] rfl (fun V hV => ?_)
  have hFσ := zc_Fr_rf [(277, -1), (278, -1), (280, -1)] σ
  show V 0 [some (ZR 276), some (ZI sheet), some (ZI lane), some (ZI n)] [] 284 σ
  refine zr_aload_n (pc := 0) hV dX5_lay_0 rfl rfl ?_
  refine zr_getR (pc := 1) hV 0 277 dX5_lay_1 fX5_11 rfl rfl (zc_k276 zc_s276) (zc_pos zc_s276 rfl) (zc_g276_0 hσ zc_s276) (by decide) ?_
  refine zr_iload_n (pc := 4) hV dX5_lay_4 rfl rfl ?_
  refine zr_iload_n (pc := 5) hV dX5_lay_5 rfl rfl ?_
  refine zr_iast (pc := 6) hV dX5_lay_6 (zc_k277 zc_s277) (zc_pos zc_s277 rfl) rfl (by omega) (fun σ6 eσ6 => ?_)
  have hσ6 : zc_T σ6 := zc_ua277 eσ6 hσ zc_s277 (by omega)
  have hFσ6 := zc_Fa eσ6 zc_s277 rfl hFσ
  refine zr_aload_n (pc := 7) hV dX5_lay_7 rfl rfl ?_
  refine zr_getR (pc := 8) hV 1 278 dX5_lay_8 fX5_15 rfl rfl (zc_k276 zc_s276) (zc_pos zc_s276 rfl) (zc_g276_1 hσ6 zc_s276) (by decide) ?_
  refine zr_iload_n (pc := 11) hV dX5_lay_11 rfl rfl ?_
  refine zr_iload_n (pc := 12) hV dX5_lay_12 rfl rfl ?_
  refine zr_iast (pc := 13) hV dX5_lay_13 (zc_k278 zc_s278) (zc_pos zc_s278 rfl) rfl (by omega) (fun σ13 eσ13 => ?_)
  have hσ13 : zc_T σ13 := zc_ua278 eσ13 hσ6 zc_s278 (by omega)
  have hFσ13 := zc_Fa eσ13 zc_s278 rfl hFσ6
  refine zr_aload_n (pc := 14) hV dX5_lay_14 rfl rfl ?_
  refine zr_getR (pc := 15) hV 2 279 dX5_lay_15 fX5_20 rfl rfl (zc_k276 zc_s276) (zc_pos zc_s276 rfl) (zc_g276_2 hσ13 zc_s276) (by decide) ?_
  refine zr_iload_n (pc := 18) hV dX5_lay_18 rfl rfl ?_
  have ga19 : σ13 279 sheet = 280 + sheet := zc_ga279 hσ13 zc_s279 sheet (by omega) (by omega)
  refine zr_aald (pc := 19) hV dX5_lay_19 (zc_k279 zc_s279) (Or.inr rfl) (zc_pos zc_s279 rfl) rfl (by omega) (by omega) ?_
  obtain ⟨o19, eo19⟩ : ∃ o, σ13 279 sheet = o := ⟨_, rfl⟩
  rw [eo19] at ga19 ⊢
  have ko19 : zc_kd o19 = 280 := ga19 ▸ zc_e280 (by omega) (by omega)
  have po19 := zc_pos ko19 rfl
  show V 20 [some (ZR 276), some (ZI sheet), some (ZI lane), some (ZI n)] [ZR o19] 284 σ13
  refine zr_iconst (pc := 20) hV 0 dX5_lay_20 rfl ?_
  refine zr_callSv (pc := 21) hV [ZR o19, ZI 0] (st := []) (c_fill (σ := σ13) hσ13 o19 0 ko19 rfl rfl ⟨by decide, by decide⟩ (fun _ => ⟨by omega, by omega⟩)) dX5_lay_21 mX5_23 (by decide) (Nat.le_of_ble_eq_true rfl) (Nat.le_refl _) (fun σ21 pσ21 => ?_)
  obtain ⟨hσ21, hfσ21, pσ21⟩ := pσ21
  have hFσ21 := zc_Fc hfσ21 rfl hFσ13
  refine zr_iload_n (pc := 24) hV dX5_lay_24 rfl rfl ?_
  exact zr_iret (pc := 25) hV dX5_lay_25 rfl rfl ⟨_, rfl, (by omega), hσ21, hFσ21, (by omega), (show (∀ j, σ21 277 j = if j = sheet then lane else σ 277 j) ∧ (∀ j, σ21 278 j = if j = sheet then n else σ 278 j) from ⟨fun j => if h : j = sheet then (by rw [if_pos h, h, hfσ21 277 _ (zc_out_ar zc_s277 rfl), eσ13, zq_up_ne (by omega), eσ6, zq_up_same]) else (by rw [if_neg h, hfσ21 277 _ (zc_out_ar zc_s277 rfl), eσ13, zq_up_ne (by omega), eσ6, zq_up_ne (by omega)]), fun j => if h : j = sheet then (by rw [if_pos h, h, hfσ21 278 _ (zc_out_ar zc_s278 rfl), eσ13, zq_up_same]) else (by rw [if_neg h, hfσ21 278 _ (zc_out_ar zc_s278 rfl), eσ13, zq_up_ne (by omega), eσ6, zq_up_ne (by omega)])⟩)⟩
set_option maxHeartbeats 800000 in
theorem c_X5_takeAway_2 {σ : zq_S} (hσ : zc_T σ) (sheet : Int) (q0 : 0 ≤ sheet ∧ sheet ≤ 3) : zq_C zc_w yX5_takeAway cX5_takeAway 2 (some .int) 0 0 284 284 [ZR 276, ZI sheet] σ (zq_pi (fun r τ => zc_T τ ∧ zc_Fr [(277, -1)] σ τ ∧ ((σ 277 sheet < 0 → r = -11) ∧ (0 ≤ σ 277 sheet → r = σ 278 sheet)) ∧ zq_hid (∀ j, τ 277 j = if j = sheet then -1 else σ 277 j))) := by
  refine zq_C_of (by decide) (Nat.le_refl _) (Nat.le_of_ble_eq_true rfl) [some (ZR 276), some (ZI sheet)] rfl (fun V hV => ?_)
  have hFσ := zc_Fr_rf [(277, -1)] σ
  show V 0 [some (ZR 276), some (ZI sheet)] [] 284 σ
  refine zr_aload_n (pc := 0) hV dX5_takeAway_0 rfl rfl ?_
  refine zr_getR (pc := 1) hV 0 277 dX5_takeAway_1 fX5_11 rfl rfl (zc_k276 zc_s276) (zc_pos zc_s276 rfl) (zc_g276_0 hσ zc_s276) (by decide) ?_
  refine zr_iload_n (pc := 4) hV dX5_takeAway_4 rfl rfl ?_
  refine zr_iald (pc := 5) hV dX5_takeAway_5 (zc_k277 zc_s277) (zc_pos zc_s277 rfl) rfl (by omega) ?_
  have t1 := zc_ga277 hσ zc_s277 sheet
  refine zr_iconst (pc := 6) hV (-1) dX5_takeAway_6 rfl ?_
  refine zr_icmp_ne (pc := 7) hV 13 dX5_takeAway_7 (by decide) (by omega) ⟨by decide, by decide⟩ (fun c2 => ?_) (fun c2 => ?_)
  · show V 13 [some (ZR 276), some (ZI sheet)] [] 284 σ
    refine zr_aload_n (pc := 13) hV dX5_takeAway_13 rfl rfl ?_
    refine zr_getR (pc := 14) hV 0 277 dX5_takeAway_14 fX5_11 rfl rfl (zc_k276 zc_s276) (zc_pos zc_s276 rfl) (zc_g276_0 hσ zc_s276) (by decide) ?_
    refine zr_iload_n (pc := 17) hV dX5_takeAway_17 rfl rfl ?_
    refine zr_iconst (pc := 18) hV (-1) dX5_takeAway_18 rfl ?_
    refine zr_iast (pc := 19) hV dX5_takeAway_19 (zc_k277 zc_s277) (zc_pos zc_s277 rfl) rfl (by omega) (fun σ19 eσ19 => ?_)
    have hσ19 : zc_T σ19 := zc_ua277 eσ19 hσ zc_s277 (by omega)
    have hFσ19 := zc_Fa eσ19 zc_s277 rfl hFσ
    refine zr_aload_n (pc := 20) hV dX5_takeAway_20 rfl rfl ?_
    refine zr_getR (pc := 21) hV 1 278 dX5_takeAway_21 fX5_15 rfl rfl (zc_k276 zc_s276) (zc_pos zc_s276 rfl) (zc_g276_1 hσ19 zc_s276) (by decide) ?_
    refine zr_iload_n (pc := 24) hV dX5_takeAway_24 rfl rfl ?_
    refine zr_iald (pc := 25) hV dX5_takeAway_25 (zc_k278 zc_s278) (zc_pos zc_s278 rfl) rfl (by omega) ?_
    have t3 := zc_ga278 hσ19 zc_s278 sheet
    have t4 : σ19 278 sheet = σ 278 sheet := by rw [eσ19]; exact zq_up_ne (zc_dk zc_s278 zc_s277 rfl)
    exact zr_iret (pc := 26) hV dX5_takeAway_26 rfl rfl ⟨_, rfl, (by omega), hσ19, hFσ19, (by omega), (show ∀ j, σ19 277 j = if j = sheet then -1 else σ 277 j from (fun j => if h : j = sheet then (by rw [if_pos h, h, eσ19, zq_up_same]) else (by rw [if_neg h, eσ19, zq_up_ne (by omega)])))⟩
  · show V 10 [some (ZR 276), some (ZI sheet)] [] 284 σ
    refine zr_bipush (pc := 10) hV (-11) dX5_takeAway_10 (by decide) ?_
    exact zr_iret (pc := 12) hV dX5_takeAway_12 rfl rfl ⟨_, rfl, ⟨by decide, by decide⟩, hσ, hFσ, (by omega), (show ∀ j, σ 277 j = if j = sheet then -1 else σ 277 j from (fun j => if h : j = sheet then (by rw [if_pos h, h]; omega) else (by rw [if_neg h])))⟩
set_option maxHeartbeats 800000 in
theorem c_X5_refusal_2 {σ : zq_S} (hσ : zc_T σ) (sheet : Int) (lane : Int) (from_ : Int) (n : Int) (q0 : 0 ≤ sheet ∧ sheet ≤ 3) (q1 : 0 ≤ lane ∧ lane ≤ 2) (q2 : zq_in from_) (q3 : 0 ≤ n ∧ n ≤ 30) : zq_C zc_w yX5_refusal cX5_refusal 5 (some .int) 0 0 284 284 [ZR 276, ZI sheet, ZI lane, ZI from_, ZI n] σ (zq_pp σ (fun r => (0 ≤ r → r = 0 ∧ 0 ≤ from_ ∧ from_ + n ≤ σ 278 sheet ∧ σ 278 sheet ≤ 30) ∧ (σ 277 sheet ≠ lane → (σ 277 sheet < 0 → r = -11) ∧ (0 ≤ σ 277 sheet → r = -12)) ∧ (σ 277 sheet = lane → (0 ≤ from_ ∧ from_ ≤ σ 278 sheet - n → r = 0) ∧ (¬ (0 ≤ from_ ∧ from_ ≤ σ 278 sheet - n) → r = -13)))) := by
  refine zq_C_of (by decide) (Nat.le_refl _) (Nat.le_of_ble_eq_true rfl) [some (ZR 276), some (ZI sheet), some (ZI lane), some (ZI from_), some (ZI n)] rfl (fun V hV => ?_)
  show V 0 [some (ZR 276), some (ZI sheet), some (ZI lane), some (ZI from_), some (ZI n)] [] 284 σ
  refine zr_aload_n (pc := 0) hV dX5_refusal_0 rfl rfl ?_
  refine zr_getR (pc := 1) hV 0 277 dX5_refusal_1 fX5_11 rfl rfl (zc_k276 zc_s276) (zc_pos zc_s276 rfl) (zc_g276_0 hσ zc_s276) (by decide) ?_
  refine zr_iload_n (pc := 4) hV dX5_refusal_4 rfl rfl ?_
  refine zr_iald (pc := 5) hV dX5_refusal_5 (zc_k277 zc_s277) (zc_pos zc_s277 rfl) rfl (by omega) ?_
  have t1 := zc_ga277 hσ zc_s277 sheet
  refine zr_iconst (pc := 6) hV (-1) dX5_refusal_6 rfl ?_
  refine zr_icmp_ne (pc := 7) hV 13 dX5_refusal_7 (by decide) (by omega) ⟨by decide, by decide⟩ (fun c2 => ?_) (fun c2 => ?_)
  · show V 13 [some (ZR 276), some (ZI sheet), some (ZI lane), some (ZI from_), some (ZI n)] [] 284 σ
    refine zr_aload_n (pc := 13) hV dX5_refusal_13 rfl rfl ?_
    refine zr_getR (pc := 14) hV 0 277 dX5_refusal_14 fX5_11 rfl rfl (zc_k276 zc_s276) (zc_pos zc_s276 rfl) (zc_g276_0 hσ zc_s276) (by decide) ?_
    refine zr_iload_n (pc := 17) hV dX5_refusal_17 rfl rfl ?_
    refine zr_iald (pc := 18) hV dX5_refusal_18 (zc_k277 zc_s277) (zc_pos zc_s277 rfl) rfl (by omega) ?_
    have t3 := zc_ga277 hσ zc_s277 sheet
    refine zr_iload_n (pc := 19) hV dX5_refusal_19 rfl rfl ?_
    refine zr_icmp_eq (pc := 20) hV 26 dX5_refusal_20 (by decide) (by omega) (by omega) (fun c4 => ?_) (fun c4 => ?_)
    · show V 26 [some (ZR 276), some (ZI sheet), some (ZI lane), some (ZI from_), some (ZI n)] [] 284 σ
      refine zr_iload_n (pc := 26) hV dX5_refusal_26 rfl rfl ?_
      refine zr_if_lt (pc := 27) hV 43 dX5_refusal_27 (by decide) (by omega) (fun c5 => ?_) (fun c5 => ?_)
      · show V 43 [some (ZR 276), some (ZI sheet), some (ZI lane), some (ZI from_), some (ZI n)] [] 284 σ
        refine zr_bipush (pc := 43) hV (-13) dX5_refusal_43 (by decide) ?_
        refine zr_goto (pc := 45) hV 49 dX5_refusal_45 (by decide) ?_
        show V 49 [some (ZR 276), some (ZI sheet), some (ZI lane), some (ZI from_), some (ZI n)] [ZI (-13)] 284 σ
        exact zr_iret (pc := 49) hV dX5_refusal_49 rfl rfl ⟨rfl, _, rfl, ⟨by decide, by decide⟩, (by omega)⟩
      · show V 30 [some (ZR 276), some (ZI sheet), some (ZI lane), some (ZI from_), some (ZI n)] [] 284 σ
        refine zr_iload_n (pc := 30) hV dX5_refusal_30 rfl rfl ?_
        refine zr_aload_n (pc := 31) hV dX5_refusal_31 rfl rfl ?_
        refine zr_getR (pc := 32) hV 1 278 dX5_refusal_32 fX5_15 rfl rfl (zc_k276 zc_s276) (zc_pos zc_s276 rfl) (zc_g276_1 hσ zc_s276) (by decide) ?_
        refine zr_iload_n (pc := 35) hV dX5_refusal_35 rfl rfl ?_
        refine zr_iald (pc := 36) hV dX5_refusal_36 (zc_k278 zc_s278) (zc_pos zc_s278 rfl) rfl (by omega) ?_
        have t6 := zc_ga278 hσ zc_s278 sheet
        refine zr_iload (pc := 37) hV dX5_refusal_37 rfl ?_
        refine zr_isub (pc := 39) hV dX5_refusal_39 ?_
        refine zr_icmp_le (pc := 40) hV 48 dX5_refusal_40 (by decide) (by omega) (by omega) (fun c7 => ?_) (fun c7 => ?_)
        · show V 48 [some (ZR 276), some (ZI sheet), some (ZI lane), some (ZI from_), some (ZI n)] [] 284 σ
          refine zr_iconst (pc := 48) hV 0 dX5_refusal_48 rfl ?_
          show V 49 [some (ZR 276), some (ZI sheet), some (ZI lane), some (ZI from_), some (ZI n)] [ZI 0] 284 σ
          exact zr_iret (pc := 49) hV dX5_refusal_49 rfl rfl ⟨rfl, _, rfl, ⟨by decide, by decide⟩, (by omega)⟩
        · show V 43 [some (ZR 276), some (ZI sheet), some (ZI lane), some (ZI from_), some (ZI n)] [] 284 σ
          refine zr_bipush (pc := 43) hV (-13) dX5_refusal_43 (by decide) ?_
          refine zr_goto (pc := 45) hV 49 dX5_refusal_45 (by decide) ?_
          show V 49 [some (ZR 276), some (ZI sheet), some (ZI lane), some (ZI from_), some (ZI n)] [ZI (-13)] 284 σ
          exact zr_iret (pc := 49) hV dX5_refusal_49 rfl rfl ⟨rfl, _, rfl, ⟨by decide, by decide⟩, (by omega)⟩
    · show V 23 [some (ZR 276), some (ZI sheet), some (ZI lane), some (ZI from_), some (ZI n)] [] 284 σ
      refine zr_bipush (pc := 23) hV (-12) dX5_refusal_23 (by decide) ?_
      exact zr_iret (pc := 25) hV dX5_refusal_25 rfl rfl ⟨rfl, _, rfl, ⟨by decide, by decide⟩, (by omega)⟩
  · show V 10 [some (ZR 276), some (ZI sheet), some (ZI lane), some (ZI from_), some (ZI n)] [] 284 σ
    refine zr_bipush (pc := 10) hV (-11) dX5_refusal_10 (by decide) ?_
    exact zr_iret (pc := 12) hV dX5_refusal_12 rfl rfl ⟨rfl, _, rfl, ⟨by decide, by decide⟩, (by omega)⟩
set_option maxHeartbeats 800000 in
theorem c_X5_write_2 {σ : zq_S} (hσ : zc_T σ) (sheet : Int) (i : Int) (v : Int) (q0 : 0 ≤ sheet ∧ sheet ≤ 3) (q1 : 0 ≤ i ∧ i ≤ 29) (q2 : zq_in v) : zq_C zc_w yX5_write cX5_write 4 (some .int) 0 0 284 284 [ZR 276, ZI sheet, ZI i, ZI v] σ (zq_pi (fun r τ => zc_T τ ∧ zc_Fr [(280, -1)] σ τ ∧ (r = 1))) := by
  refine zq_C_of (by decide) (Nat.le_refl _) (Nat.le_of_ble_eq_true rfl) [some (ZR 276), some (ZI sheet), some (ZI i), some (ZI v)] rfl (fun V hV => ?_)
  have hFσ := zc_Fr_rf [(280, -1)] σ
  show V 0 [some (ZR 276), some (ZI sheet), some (ZI i), some (ZI v)] [] 284 σ
  refine zr_aload_n (pc := 0) hV dX5_write_0 rfl rfl ?_
  refine zr_getR (pc := 1) hV 0 277 dX5_write_1 fX5_11 rfl rfl (zc_k276 zc_s276) (zc_pos zc_s276 rfl) (zc_g276_0 hσ zc_s276) (by decide) ?_
  refine zr_iload_n (pc := 4) hV dX5_write_4 rfl rfl ?_
  refine zr_iald (pc := 5) hV dX5_write_5 (zc_k277 zc_s277) (zc_pos zc_s277 rfl) rfl (by omega) ?_
  have t1 := zc_ga277 hσ zc_s277 sheet
  by_cases c2 : σ 277 sheet = 0
  · refine zr_eqI (V := V) 0 c2 ?_
    refine zr_lookup (pc := 6) hV 32 dX5_write_6 ⟨by decide, by decide⟩ (by decide) rfl (by decide) ?_
    show V 32 [some (ZR 276), some (ZI sheet), some (ZI i), some (ZI v)] [] 284 σ
    refine zr_aload_n (pc := 32) hV dX5_write_32 rfl rfl ?_
    refine zr_getR (pc := 33) hV 2 279 dX5_write_33 fX5_20 rfl rfl (zc_k276 zc_s276) (zc_pos zc_s276 rfl) (zc_g276_2 hσ zc_s276) (by decide) ?_
    refine zr_iload_n (pc := 36) hV dX5_write_36 rfl rfl ?_
    have ga37 : σ 279 sheet = 280 + sheet := zc_ga279 hσ zc_s279 sheet (by omega) (by omega)
    refine zr_aald (pc := 37) hV dX5_write_37 (zc_k279 zc_s279) (Or.inr rfl) (zc_pos zc_s279 rfl) rfl (by omega) (by omega) ?_
    obtain ⟨o37, eo37⟩ : ∃ o, σ 279 sheet = o := ⟨_, rfl⟩
    rw [eo37] at ga37 ⊢
    have ko37 : zc_kd o37 = 280 := ga37 ▸ zc_e280 (by omega) (by omega)
    have po37 := zc_pos ko37 rfl
    show V 38 [some (ZR 276), some (ZI sheet), some (ZI i), some (ZI v)] [ZR o37] 284 σ
    refine zr_iload_n (pc := 38) hV dX5_write_38 rfl rfl ?_
    refine zr_iload_n (pc := 39) hV dX5_write_39 rfl rfl ?_
    refine zr_i2b (pc := 40) hV dX5_write_40 ?_
    have t3 := zq_byte_in v
    refine zr_iast (pc := 41) hV dX5_write_41 (zc_k280 ko37) (zc_pos ko37 rfl) rfl (by omega) (fun σ41 eσ41 => ?_)
    have hσ41 : zc_T σ41 := zc_ua280 eσ41 hσ ko37 (by omega)
    have hFσ41 := zc_Fa eσ41 ko37 rfl hFσ
    refine zr_goto (pc := 42) hV 67 dX5_write_42 (by decide) ?_
    show V 67 [some (ZR 276), some (ZI sheet), some (ZI i), some (ZI v)] [] 284 σ41
    refine zr_iconst (pc := 67) hV 1 dX5_write_67 rfl ?_
    exact zr_iret (pc := 68) hV dX5_write_68 rfl rfl ⟨_, rfl, ⟨by decide, by decide⟩, hσ41, hFσ41, (by omega)⟩
  by_cases c4 : σ 277 sheet = 1
  · refine zr_eqI (V := V) 1 c4 ?_
    refine zr_lookup (pc := 6) hV 45 dX5_write_6 ⟨by decide, by decide⟩ (by decide) rfl (by decide) ?_
    show V 45 [some (ZR 276), some (ZI sheet), some (ZI i), some (ZI v)] [] 284 σ
    refine zr_aload_n (pc := 45) hV dX5_write_45 rfl rfl ?_
    refine zr_getR (pc := 46) hV 2 279 dX5_write_46 fX5_20 rfl rfl (zc_k276 zc_s276) (zc_pos zc_s276 rfl) (zc_g276_2 hσ zc_s276) (by decide) ?_
    refine zr_iload_n (pc := 49) hV dX5_write_49 rfl rfl ?_
    have ga50 : σ 279 sheet = 280 + sheet := zc_ga279 hσ zc_s279 sheet (by omega) (by omega)
    refine zr_aald (pc := 50) hV dX5_write_50 (zc_k279 zc_s279) (Or.inr rfl) (zc_pos zc_s279 rfl) rfl (by omega) (by omega) ?_
    obtain ⟨o50, eo50⟩ : ∃ o, σ 279 sheet = o := ⟨_, rfl⟩
    rw [eo50] at ga50 ⊢
    have ko50 : zc_kd o50 = 280 := ga50 ▸ zc_e280 (by omega) (by omega)
    have po50 := zc_pos ko50 rfl
    show V 51 [some (ZR 276), some (ZI sheet), some (ZI i), some (ZI v)] [ZR o50] 284 σ
    refine zr_iload_n (pc := 51) hV dX5_write_51 rfl rfl ?_
    refine zr_iload_n (pc := 52) hV dX5_write_52 rfl rfl ?_
    refine zr_i2s (pc := 53) hV dX5_write_53 ?_
    have t5 := zq_short_in v
    refine zr_iast (pc := 54) hV dX5_write_54 (zc_k280 ko50) (zc_pos ko50 rfl) rfl (by omega) (fun σ54 eσ54 => ?_)
    have hσ54 : zc_T σ54 := zc_ua280 eσ54 hσ ko50 (by omega)
    have hFσ54 := zc_Fa eσ54 ko50 rfl hFσ
    refine zr_goto (pc := 55) hV 67 dX5_write_55 (by decide) ?_
    show V 67 [some (ZR 276), some (ZI sheet), some (ZI i), some (ZI v)] [] 284 σ54
    refine zr_iconst (pc := 67) hV 1 dX5_write_67 rfl ?_
    exact zr_iret (pc := 68) hV dX5_write_68 rfl rfl ⟨_, rfl, ⟨by decide, by decide⟩, hσ54, hFσ54, (by omega)⟩
  refine zr_lookup (pc := 6) (off := 52) hV 58 dX5_write_6 (by omega) (by decide) (by simp only [Op.lookupswitch.offset]; repeat (split <;> try omega)) (by decide) ?_
  show V 58 [some (ZR 276), some (ZI sheet), some (ZI i), some (ZI v)] [] 284 σ
  refine zr_aload_n (pc := 58) hV dX5_write_58 rfl rfl ?_
  refine zr_getR (pc := 59) hV 2 279 dX5_write_59 fX5_20 rfl rfl (zc_k276 zc_s276) (zc_pos zc_s276 rfl) (zc_g276_2 hσ zc_s276) (by decide) ?_
  refine zr_iload_n (pc := 62) hV dX5_write_62 rfl rfl ?_
  have ga63 : σ 279 sheet = 280 + sheet := zc_ga279 hσ zc_s279 sheet (by omega) (by omega)
  refine zr_aald (pc := 63) hV dX5_write_63 (zc_k279 zc_s279) (Or.inr rfl) (zc_pos zc_s279 rfl) rfl (by omega) (by omega) ?_
  obtain ⟨o63, eo63⟩ : ∃ o, σ 279 sheet = o := ⟨_, rfl⟩
  rw [eo63] at ga63 ⊢
  have ko63 : zc_kd o63 = 280 := ga63 ▸ zc_e280 (by omega) (by omega)
  have po63 := zc_pos ko63 rfl
  show V 64 [some (ZR 276), some (ZI sheet), some (ZI i), some (ZI v)] [ZR o63] 284 σ
  refine zr_iload_n (pc := 64) hV dX5_write_64 rfl rfl ?_
  refine zr_iload_n (pc := 65) hV dX5_write_65 rfl rfl ?_
  refine zr_iast (pc := 66) hV dX5_write_66 (zc_k280 ko63) (zc_pos ko63 rfl) rfl (by omega) (fun σ66 eσ66 => ?_)
  have hσ66 : zc_T σ66 := zc_ua280 eσ66 hσ ko63 (by omega)
  have hFσ66 := zc_Fa eσ66 ko63 rfl hFσ
  show V 67 [some (ZR 276), some (ZI sheet), some (ZI i), some (ZI v)] [] 284 σ66
  refine zr_iconst (pc := 67) hV 1 dX5_write_67 rfl ?_
  exact zr_iret (pc := 68) hV dX5_write_68 rfl rfl ⟨_, rfl, ⟨by decide, by decide⟩, hσ66, hFσ66, (by omega)⟩
set_option maxHeartbeats 800000 in
theorem c_X11_sheet_2 {σ : zq_S} (hσ : zc_T σ) (sheet : Int) (lane : Int) (n : Int) (q0 : zq_in sheet) (q1 : zq_in lane) (q2 : zq_in n) (Uσ : zc_U σ) : zq_C zc_w yX11_sheet cX11_sheet 4 (some .int) 2 46 284 284 [ZR 0, ZI sheet, ZI lane, ZI n] σ (zq_pi (fun r τ => zc_T τ ∧ zc_Fr [(277, -1), (278, -1), (280, -1)] σ τ ∧ (((0 ≤ sheet ∧ sheet ≤ 3 ∧ 0 ≤ lane ∧ lane ≤ 2 ∧ n ≤ 30 ∧ n < 0 → r = -14) ∧ (0 ≤ sheet ∧ sheet ≤ 3 ∧ 0 ≤ lane ∧ lane ≤ 2 ∧ n ≤ 30 ∧ 0 ≤ n → r = n) ∧ (¬ (0 ≤ sheet ∧ sheet ≤ 3 ∧ 0 ≤ lane ∧ lane ≤ 2 ∧ n ≤ 30) → r = -1))) ∧ zq_hid ((∀ j, τ 277 j = if 0 ≤ sheet ∧ sheet ≤ 3 ∧ 0 ≤ lane ∧ lane ≤ 2 ∧ n ≤ 30 ∧ 0 ≤ n ∧ j = sheet then lane else σ 277 j) ∧ (∀ j, τ 278 j = if 0 ≤ sheet ∧ sheet ≤ 3 ∧ 0 ≤ lane ∧ lane ≤ 2 ∧ n ≤ 30 ∧ 0 ≤ n ∧ j = sheet then n else σ 278 j)) ∧ zc_U τ)) := by
  refine zq_C_of (by decide) (Nat.le_refl _) (Nat.le_of_ble_eq_true rfl) [some (ZR 0), some (ZI sheet), some (ZI lane), some (ZI n)] rfl (fun V hV => ?_)
  have hFσ := zc_Fr_rf [(277, -1), (278, -1), (280, -1)] σ
  show V 0 [some (ZR 0), some (ZI sheet), some (ZI lane), some (ZI n)] [] 284 σ
  refine zr_iload_n (pc := 0) hV dX11_sheet_0 rfl rfl ?_
  refine zr_callSp (pc := 1) hV [ZI sheet] (st := []) (c_X5_isSheet (σ := σ) sheet (by omega)) dX11_sheet_1 mX11_273 (by decide) (Nat.le_of_ble_eq_true rfl) (Nat.le_refl _) (fun r1 hr1 pr1 => ?_)
  refine zr_if_eq (pc := 4) hV 20 dX11_sheet_4 (by decide) (by omega) (fun c1 => ?_) (fun c1 => ?_)
  · show V 20 [some (ZR 0), some (ZI sheet), some (ZI lane), some (ZI n)] [] 284 σ
    refine zr_iconst (pc := 20) hV (-1) dX11_sheet_20 rfl ?_
    exact zr_iret (pc := 21) hV dX11_sheet_21 rfl rfl ⟨_, rfl, ⟨by decide, by decide⟩, hσ, hFσ, (by omega), (show (∀ j, σ 277 j = if 0 ≤ sheet ∧ sheet ≤ 3 ∧ 0 ≤ lane ∧ lane ≤ 2 ∧ n ≤ 30 ∧ 0 ≤ n ∧ j = sheet then lane else σ 277 j) ∧ (∀ j, σ 278 j = if 0 ≤ sheet ∧ sheet ≤ 3 ∧ 0 ≤ lane ∧ lane ≤ 2 ∧ n ≤ 30 ∧ 0 ≤ n ∧ j = sheet then n else σ 278 j) from ⟨fun j => by rw [if_neg (by omega)], fun j => by rw [if_neg (by omega)]⟩), Uσ⟩
  · show V 7 [some (ZR 0), some (ZI sheet), some (ZI lane), some (ZI n)] [] 284 σ
    refine zr_iload_n (pc := 7) hV dX11_sheet_7 rfl rfl ?_
    refine zr_callSp (pc := 8) hV [ZI lane] (st := []) (c_X5_isLane (σ := σ) lane (by omega)) dX11_sheet_8 mX11_276 (by decide) (Nat.le_of_ble_eq_true rfl) (Nat.le_refl _) (fun r8 hr8 pr8 => ?_)
    refine zr_if_eq (pc := 11) hV 20 dX11_sheet_11 (by decide) (by omega) (fun c2 => ?_) (fun c2 => ?_)
    · show V 20 [some (ZR 0), some (ZI sheet), some (ZI lane), some (ZI n)] [] 284 σ
      refine zr_iconst (pc := 20) hV (-1) dX11_sheet_20 rfl ?_
      exact zr_iret (pc := 21) hV dX11_sheet_21 rfl rfl ⟨_, rfl, ⟨by decide, by decide⟩, hσ, hFσ, (by omega), (show (∀ j, σ 277 j = if 0 ≤ sheet ∧ sheet ≤ 3 ∧ 0 ≤ lane ∧ lane ≤ 2 ∧ n ≤ 30 ∧ 0 ≤ n ∧ j = sheet then lane else σ 277 j) ∧ (∀ j, σ 278 j = if 0 ≤ sheet ∧ sheet ≤ 3 ∧ 0 ≤ lane ∧ lane ≤ 2 ∧ n ≤ 30 ∧ 0 ≤ n ∧ j = sheet then n else σ 278 j) from ⟨fun j => by rw [if_neg (by omega)], fun j => by rw [if_neg (by omega)]⟩), Uσ⟩
    · show V 14 [some (ZR 0), some (ZI sheet), some (ZI lane), some (ZI n)] [] 284 σ
      refine zr_iload_n (pc := 14) hV dX11_sheet_14 rfl rfl ?_
      refine zr_bipush (pc := 15) hV 30 dX11_sheet_15 (by decide) ?_
      refine zr_icmp_le (pc := 17) hV 22 dX11_sheet_17 (by decide) (by omega) ⟨by decide, by decide⟩ (fun c3 => ?_) (fun c3 => ?_)
      · show V 22 [some (ZR 0), some (ZI sheet), some (ZI lane), some (ZI n)] [] 284 σ
        refine zr_iload_n (pc := 22) hV dX11_sheet_22 rfl rfl ?_
        refine zr_if_ge (pc := 23) hV 31 dX11_sheet_23 (by decide) (by omega) (fun c4 => ?_) (fun c4 => ?_)
        · show V 31 [some (ZR 0), some (ZI sheet), some (ZI lane), some (ZI n)] [] 284 σ
          refine zr_aload_n (pc := 31) hV dX11_sheet_31 rfl rfl ?_
          refine zr_getR (pc := 32) hV 7 276 dX11_sheet_32 fX11_64 rfl rfl (zc_k0 zc_s0) (zc_pos zc_s0 rfl) (zc_g0_7 hσ zc_s0) (by decide) ?_
          refine zr_iload_n (pc := 35) hV dX11_sheet_35 rfl rfl ?_
          refine zr_iload_n (pc := 36) hV dX11_sheet_36 rfl rfl ?_
          refine zr_iload_n (pc := 37) hV dX11_sheet_37 rfl rfl ?_
          refine zr_callVi (pc := 38) hV [ZI sheet, ZI lane, ZI n] (st := []) (c_X5_lay_2 (σ := σ) hσ sheet lane n (by omega) (by omega) (by omega)) dX11_sheet_38 mX11_300 (zc_k276 zc_s276) (zc_pos zc_s276 rfl) (by decide) (Nat.le_of_ble_eq_true rfl) (Nat.le_refl _) (fun r38 σ38 hr38 pσ38 => ?_)
          obtain ⟨hσ38, hfσ38, pσ38, wσ38⟩ := pσ38
          have hFσ38 := zc_Fc hfσ38 rfl hFσ
          have Uσ38 : zc_U σ38 := zc_U_fr hfσ38 rfl hσ Uσ
          show V 41 [some (ZR 0), some (ZI sheet), some (ZI lane), some (ZI n)] [ZI r38] 284 σ38
          exact zr_iret (pc := 41) hV dX11_sheet_41 rfl rfl ⟨_, rfl, (by omega), hσ38, hFσ38, (by omega), (show (∀ j, σ38 277 j = if 0 ≤ sheet ∧ sheet ≤ 3 ∧ 0 ≤ lane ∧ lane ≤ 2 ∧ n ≤ 30 ∧ 0 ≤ n ∧ j = sheet then lane else σ 277 j) ∧ (∀ j, σ38 278 j = if 0 ≤ sheet ∧ sheet ≤ 3 ∧ 0 ≤ lane ∧ lane ≤ 2 ∧ n ≤ 30 ∧ 0 ≤ n ∧ j = sheet then n else σ 278 j) from ⟨fun j => if h : j = sheet then (by rw [wσ38.1 j, if_pos h, if_pos (by omega)]) else (by rw [wσ38.1 j, if_neg h, if_neg (by omega)]), fun j => if h : j = sheet then (by rw [wσ38.2 j, if_pos h, if_pos (by omega)]) else (by rw [wσ38.2 j, if_neg h, if_neg (by omega)])⟩), Uσ38⟩
        · show V 26 [some (ZR 0), some (ZI sheet), some (ZI lane), some (ZI n)] [] 284 σ
          refine zr_bipush (pc := 26) hV (-14) dX11_sheet_26 (by decide) ?_
          refine zr_goto (pc := 28) hV 41 dX11_sheet_28 (by decide) ?_
          show V 41 [some (ZR 0), some (ZI sheet), some (ZI lane), some (ZI n)] [ZI (-14)] 284 σ
          exact zr_iret (pc := 41) hV dX11_sheet_41 rfl rfl ⟨_, rfl, ⟨by decide, by decide⟩, hσ, hFσ, (by omega), (show (∀ j, σ 277 j = if 0 ≤ sheet ∧ sheet ≤ 3 ∧ 0 ≤ lane ∧ lane ≤ 2 ∧ n ≤ 30 ∧ 0 ≤ n ∧ j = sheet then lane else σ 277 j) ∧ (∀ j, σ 278 j = if 0 ≤ sheet ∧ sheet ≤ 3 ∧ 0 ≤ lane ∧ lane ≤ 2 ∧ n ≤ 30 ∧ 0 ≤ n ∧ j = sheet then n else σ 278 j) from ⟨fun j => by rw [if_neg (by omega)], fun j => by rw [if_neg (by omega)]⟩), Uσ⟩
      · show V 20 [some (ZR 0), some (ZI sheet), some (ZI lane), some (ZI n)] [] 284 σ
        refine zr_iconst (pc := 20) hV (-1) dX11_sheet_20 rfl ?_
        exact zr_iret (pc := 21) hV dX11_sheet_21 rfl rfl ⟨_, rfl, ⟨by decide, by decide⟩, hσ, hFσ, (by omega), (show (∀ j, σ 277 j = if 0 ≤ sheet ∧ sheet ≤ 3 ∧ 0 ≤ lane ∧ lane ≤ 2 ∧ n ≤ 30 ∧ 0 ≤ n ∧ j = sheet then lane else σ 277 j) ∧ (∀ j, σ 278 j = if 0 ≤ sheet ∧ sheet ≤ 3 ∧ 0 ≤ lane ∧ lane ≤ 2 ∧ n ≤ 30 ∧ 0 ≤ n ∧ j = sheet then n else σ 278 j) from ⟨fun j => by rw [if_neg (by omega)], fun j => by rw [if_neg (by omega)]⟩), Uσ⟩
set_option maxHeartbeats 800000 in
theorem c_X11_drop_2 {σ : zq_S} (hσ : zc_T σ) (sheet : Int) (q0 : zq_in sheet) (Uσ : zc_U σ) : zq_C zc_w yX11_drop cX11_drop 2 (some .int) 1 21 284 284 [ZR 0, ZI sheet] σ (zq_pi (fun r τ => zc_T τ ∧ zc_Fr [(277, -1)] σ τ ∧ ((¬ (0 ≤ sheet ∧ sheet ≤ 3) → r = -1) ∧ (0 ≤ sheet ∧ sheet ≤ 3 → (σ 277 sheet < 0 → r = -11) ∧ (0 ≤ σ 277 sheet → r = σ 278 sheet))) ∧ zq_hid (∀ j, τ 277 j = if 0 ≤ sheet ∧ sheet ≤ 3 ∧ j = sheet then -1 else σ 277 j) ∧ zc_U τ)) := by
  refine zq_C_of (by decide) (Nat.le_refl _) (Nat.le_of_ble_eq_true rfl) [some (ZR 0), some (ZI sheet)] rfl (fun V hV => ?_)
  have hFσ := zc_Fr_rf [(277, -1)] σ
  show V 0 [some (ZR 0), some (ZI sheet)] [] 284 σ
  refine zr_iload_n (pc := 0) hV dX11_drop_0 rfl rfl ?_
  refine zr_callSp (pc := 1) hV [ZI sheet] (st := []) (c_X5_isSheet (σ := σ) sheet (by omega)) dX11_drop_1 mX11_273 (by decide) (Nat.le_of_ble_eq_true rfl) (Nat.le_refl _) (fun r1 hr1 pr1 => ?_)
  refine zr_if_eq (pc := 4) hV 18 dX11_drop_4 (by decide) (by omega) (fun c1 => ?_) (fun c1 => ?_)
  · show V 18 [some (ZR 0), some (ZI sheet)] [] 284 σ
    refine zr_iconst (pc := 18) hV (-1) dX11_drop_18 rfl ?_
    show V 19 [some (ZR 0), some (ZI sheet)] [ZI (-1)] 284 σ
    exact zr_iret (pc := 19) hV dX11_drop_19 rfl rfl ⟨_, rfl, ⟨by decide, by decide⟩, hσ, hFσ, (by omega), (show ∀ j, σ 277 j = if 0 ≤ sheet ∧ sheet ≤ 3 ∧ j = sheet then -1 else σ 277 j from (fun j => by rw [if_neg (by omega)])), Uσ⟩
  · show V 7 [some (ZR 0), some (ZI sheet)] [] 284 σ
    refine zr_aload_n (pc := 7) hV dX11_drop_7 rfl rfl ?_
    refine zr_getR (pc := 8) hV 7 276 dX11_drop_8 fX11_64 rfl rfl (zc_k0 zc_s0) (zc_pos zc_s0 rfl) (zc_g0_7 hσ zc_s0) (by decide) ?_
    refine zr_iload_n (pc := 11) hV dX11_drop_11 rfl rfl ?_
    refine zr_callVi (pc := 12) hV [ZI sheet] (st := []) (c_X5_takeAway_2 (σ := σ) hσ sheet (by omega)) dX11_drop_12 mX11_304 (zc_k276 zc_s276) (zc_pos zc_s276 rfl) (by decide) (Nat.le_of_ble_eq_true rfl) (Nat.le_refl _) (fun r12 σ12 hr12 pσ12 => ?_)
    obtain ⟨hσ12, hfσ12, pσ12, wσ12⟩ := pσ12
    have hFσ12 := zc_Fc hfσ12 rfl hFσ
    have Uσ12 : zc_U σ12 := zc_U_fr hfσ12 rfl hσ Uσ
    refine zr_goto (pc := 15) hV 19 dX11_drop_15 (by decide) ?_
    show V 19 [some (ZR 0), some (ZI sheet)] [ZI r12] 284 σ12
    exact zr_iret (pc := 19) hV dX11_drop_19 rfl rfl ⟨_, rfl, (by omega), hσ12, hFσ12, (by omega), (show ∀ j, σ12 277 j = if 0 ≤ sheet ∧ sheet ≤ 3 ∧ j = sheet then -1 else σ 277 j from (fun j => if h : j = sheet then (by rw [wσ12 j, if_pos h, if_pos (by omega)]) else (by rw [wσ12 j, if_neg h, if_neg (by omega)]))), Uσ12⟩
set_option maxHeartbeats 800000 in
theorem c_X11_item_2 {σ : zq_S} (hσ : zc_T σ) (sheet : Int) (lane : Int) (i : Int) (v : Int) (q0 : zq_in sheet) (q1 : zq_in lane) (q2 : zq_in i) (q3 : zq_in v) (Uσ : zc_U σ) : zq_C zc_w yX11_item cX11_item 6 (some .int) 1 24 284 284 [ZR 0, ZI sheet, ZI lane, ZI i, ZI v] σ (zq_pi (fun r τ => zc_T τ ∧ zc_Fr [(280, -1)] σ τ ∧ ((¬ (0 ≤ sheet ∧ sheet ≤ 3 ∧ 0 ≤ lane ∧ lane ≤ 2) → r = -1) ∧ (0 ≤ sheet ∧ sheet ≤ 3 ∧ 0 ≤ lane ∧ lane ≤ 2 → (σ 277 sheet ≠ lane → (σ 277 sheet < 0 → r = -11) ∧ (0 ≤ σ 277 sheet → r = -12)) ∧ (σ 277 sheet = lane → (0 ≤ i ∧ i ≤ σ 278 sheet - 1 → r = 1) ∧ (¬ (0 ≤ i ∧ i ≤ σ 278 sheet - 1) → r = -13)))) ∧ zc_U τ)) := by
  refine zq_C_of (by decide) (Nat.le_refl _) (Nat.le_of_ble_eq_true rfl) [some (ZR 0), some (ZI sheet), some (ZI lane), some (ZI i), some (ZI v), none] rfl (fun V hV => ?_)
  have hFσ := zc_Fr_rf [(280, -1)] σ
  show V 0 [some (ZR 0), some (ZI sheet), some (ZI lane), some (ZI i), some (ZI v), none] [] 284 σ
  refine zr_iload_n (pc := 0) hV dX11_item_0 rfl rfl ?_
  refine zr_callSp (pc := 1) hV [ZI sheet] (st := []) (c_X5_isSheet (σ := σ) sheet (by omega)) dX11_item_1 mX11_273 (by decide) (Nat.le_of_ble_eq_true rfl) (Nat.le_refl _) (fun r1 hr1 pr1 => ?_)
  refine zr_if_eq (pc := 4) hV 14 dX11_item_4 (by decide) (by omega) (fun c1 => ?_) (fun c1 => ?_)
  · show V 14 [some (ZR 0), some (ZI sheet), some (ZI lane), some (ZI i), some (ZI v), none] [] 284 σ
    refine zr_iconst (pc := 14) hV (-1) dX11_item_14 rfl ?_
    exact zr_iret (pc := 15) hV dX11_item_15 rfl rfl ⟨_, rfl, ⟨by decide, by decide⟩, hσ, hFσ, (by omega), Uσ⟩
  · show V 7 [some (ZR 0), some (ZI sheet), some (ZI lane), some (ZI i), some (ZI v), none] [] 284 σ
    refine zr_iload_n (pc := 7) hV dX11_item_7 rfl rfl ?_
    refine zr_callSp (pc := 8) hV [ZI lane] (st := []) (c_X5_isLane (σ := σ) lane (by omega)) dX11_item_8 mX11_276 (by decide) (Nat.le_of_ble_eq_true rfl) (Nat.le_refl _) (fun r8 hr8 pr8 => ?_)
    refine zr_if_ne (pc := 11) hV 16 dX11_item_11 (by decide) (by omega) (fun c2 => ?_) (fun c2 => ?_)
    · show V 16 [some (ZR 0), some (ZI sheet), some (ZI lane), some (ZI i), some (ZI v), none] [] 284 σ
      refine zr_aload_n (pc := 16) hV dX11_item_16 rfl rfl ?_
      refine zr_getR (pc := 17) hV 7 276 dX11_item_17 fX11_64 rfl rfl (zc_k0 zc_s0) (zc_pos zc_s0 rfl) (zc_g0_7 hσ zc_s0) (by decide) ?_
      refine zr_iload_n (pc := 20) hV dX11_item_20 rfl rfl ?_
      refine zr_iload_n (pc := 21) hV dX11_item_21 rfl rfl ?_
      refine zr_iload_n (pc := 22) hV dX11_item_22 rfl rfl ?_
      refine zr_iconst (pc := 23) hV 1 dX11_item_23 rfl ?_
      refine zr_callVp (pc := 24) hV [ZI sheet, ZI lane, ZI i, ZI 1] (st := []) (c_X5_refusal_2 (σ := σ) hσ sheet lane i 1 (by omega) (by omega) (by omega) (by omega)) dX11_item_24 mX11_279 (zc_k276 zc_s276) (zc_pos zc_s276 rfl) (by decide) (Nat.le_of_ble_eq_true rfl) (Nat.le_refl _) (fun r24 hr24 pr24 => ?_)
      refine zr_istore (pc := 27) hV [some (ZR 0), some (ZI sheet), some (ZI lane), some (ZI i), some (ZI v), some (ZI r24)] dX11_item_27 (by decide) rfl rfl ?_
      refine zr_iload (pc := 29) hV dX11_item_29 rfl ?_
      refine zr_if_ge (pc := 31) hV 39 dX11_item_31 (by decide) (by omega) (fun c3 => ?_) (fun c3 => ?_)
      · show V 39 [some (ZR 0), some (ZI sheet), some (ZI lane), some (ZI i), some (ZI v), some (ZI r24)] [] 284 σ
        refine zr_aload_n (pc := 39) hV dX11_item_39 rfl rfl ?_
        refine zr_getR (pc := 40) hV 7 276 dX11_item_40 fX11_64 rfl rfl (zc_k0 zc_s0) (zc_pos zc_s0 rfl) (zc_g0_7 hσ zc_s0) (by decide) ?_
        refine zr_iload_n (pc := 43) hV dX11_item_43 rfl rfl ?_
        refine zr_iload_n (pc := 44) hV dX11_item_44 rfl rfl ?_
        refine zr_iload (pc := 45) hV dX11_item_45 rfl ?_
        refine zr_callVi (pc := 47) hV [ZI sheet, ZI i, ZI v] (st := []) (c_X5_write_2 (σ := σ) hσ sheet i v (by omega) (by omega) (by omega)) dX11_item_47 mX11_307 (zc_k276 zc_s276) (zc_pos zc_s276 rfl) (by decide) (Nat.le_of_ble_eq_true rfl) (Nat.le_refl _) (fun r47 σ47 hr47 pσ47 => ?_)
        obtain ⟨hσ47, hfσ47, pσ47⟩ := pσ47
        have hFσ47 := zc_Fc hfσ47 rfl hFσ
        have Uσ47 : zc_U σ47 := zc_U_fr hfσ47 rfl hσ Uσ
        show V 50 [some (ZR 0), some (ZI sheet), some (ZI lane), some (ZI i), some (ZI v), some (ZI r24)] [ZI r47] 284 σ47
        exact zr_iret (pc := 50) hV dX11_item_50 rfl rfl ⟨_, rfl, (by omega), hσ47, hFσ47, (by omega), Uσ47⟩
      · show V 34 [some (ZR 0), some (ZI sheet), some (ZI lane), some (ZI i), some (ZI v), some (ZI r24)] [] 284 σ
        refine zr_iload (pc := 34) hV dX11_item_34 rfl ?_
        refine zr_goto (pc := 36) hV 50 dX11_item_36 (by decide) ?_
        show V 50 [some (ZR 0), some (ZI sheet), some (ZI lane), some (ZI i), some (ZI v), some (ZI r24)] [ZI r24] 284 σ
        exact zr_iret (pc := 50) hV dX11_item_50 rfl rfl ⟨_, rfl, (by omega), hσ, hFσ, (by omega), Uσ⟩
    · show V 14 [some (ZR 0), some (ZI sheet), some (ZI lane), some (ZI i), some (ZI v), none] [] 284 σ
      refine zr_iconst (pc := 14) hV (-1) dX11_item_14 rfl ?_
      exact zr_iret (pc := 15) hV dX11_item_15 rfl rfl ⟨_, rfl, ⟨by decide, by decide⟩, hσ, hFσ, (by omega), Uσ⟩

