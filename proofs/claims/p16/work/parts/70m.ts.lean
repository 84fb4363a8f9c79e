set_option maxHeartbeats 800000 in
theorem c_X4_writeByte_2 {σ : zq_S} (hσ : zc_T σ) (b : Int) (q0 : zq_in b) (q1 : σ 132 3 < 16) : zq_C zc_w yX4_writeByte cX4_writeByte 2 (none) 0 0 284 284 [ZR 132, ZI b] σ (zq_pv (fun τ => zc_T τ ∧ zc_Fr [(132, 3), (133, -1)] σ τ ∧ (τ 132 3 = σ 132 3 + 1 ∧ zu_sc τ = zu_w1 (zu_sc σ) b))) := by
  refine zq_C_of (by decide) (Nat.le_refl _) (Nat.le_of_ble_eq_true rfl) [some (ZR 132), some (ZI b)] rfl (fun V hV => ?_)
  have hFσ := zc_Fr_rf [(132, 3), (133, -1)] σ
  show V 0 [some (ZR 132), some (ZI b)] [] 284 σ
  refine zr_aload_n (pc := 0) hV dX4_writeByte_0 rfl rfl ?_
  refine zr_getI (pc := 1) hV 3 dX4_writeByte_1 fX4_154 rfl rfl (zc_k132 zc_s132) (zc_pos zc_s132 rfl) ?_
  have t1 := zc_g132_3 hσ zc_s132
  refine zr_bipush (pc := 4) hV 16 dX4_writeByte_4 (by decide) ?_
  refine zr_icmp_ge (pc := 6) hV 26 dX4_writeByte_6 (by decide) (by omega) ⟨by decide, by decide⟩ (fun c2 => ?_) (fun c2 => ?_)
  · show V 26 [some (ZR 132), some (ZI b)] [] 284 σ
    have t3 := zc_g132_3 hσ zc_s132
    exact zr_vret (pc := 26) hV dX4_writeByte_26 rfl rfl ⟨rfl, hσ, hFσ, (by exfalso; omega)⟩
  · show V 9 [some (ZR 132), some (ZI b)] [] 284 σ
    refine zr_aload_n (pc := 9) hV dX4_writeByte_9 rfl rfl ?_
    refine zr_getR (pc := 10) hV 2 133 dX4_writeByte_10 fX4_11 rfl rfl (zc_k132 zc_s132) (zc_pos zc_s132 rfl) (zc_g132_2 hσ zc_s132) (by decide) ?_
    refine zr_aload_n (pc := 13) hV dX4_writeByte_13 rfl rfl ?_
    refine zr_dup (pc := 14) hV dX4_writeByte_14 (fun _ => rfl) ?_
    refine zr_getI (pc := 15) hV 3 dX4_writeByte_15 fX4_154 rfl rfl (zc_k132 zc_s132) (zc_pos zc_s132 rfl) ?_
    have t4 := zc_g132_3 hσ zc_s132
    refine zr_dup_x1 (pc := 18) hV dX4_writeByte_18 (fun _ => rfl) (fun _ => rfl) ?_
    refine zr_iconst (pc := 19) hV 1 dX4_writeByte_19 rfl ?_
    refine zr_iadd (pc := 20) hV dX4_writeByte_20 ?_
    refine zr_putI (pc := 21) hV 3 dX4_writeByte_21 fX4_154 rfl rfl rfl (zc_k132 zc_s132) (zc_pos zc_s132 rfl) (fun σ21 eσ21 => ?_)
    have hσ21 : zc_T σ21 := zc_u132_3 eσ21 hσ zc_s132 (by omega)
    have hFσ21 := zc_Fw eσ21 zc_s132 rfl hFσ
    refine zr_iload_n (pc := 24) hV dX4_writeByte_24 rfl rfl ?_
    refine zr_iast (pc := 25) hV dX4_writeByte_25 (zc_k133 zc_s133) (zc_pos zc_s133 rfl) rfl (by omega) (fun σ25 eσ25 => ?_)
    have hσ25 : zc_T σ25 := zc_ua133 eσ25 hσ21 zc_s133 (by omega)
    have hFσ25 := zc_Fa eσ25 zc_s133 rfl hFσ21
    show V 26 [some (ZR 132), some (ZI b)] [] 284 σ25
    have t5 := zc_g132_3 hσ25 zc_s132
    have t6 : σ25 132 3 = σ21 132 3 := by rw [eσ25]; exact zq_up_ne (zc_dk zc_s132 zc_s133 rfl)
    have t7 : σ21 132 3 = (σ 132 3) + 1 := by rw [eσ21]; exact zq_up_same _ _ _ _
    exact zr_vret (pc := 26) hV dX4_writeByte_26 rfl rfl ⟨rfl, hσ25, hFσ25, ⟨by omega, zu_sc_w (by omega) (fun j => if h : j = σ 132 3 then (by rw [if_pos h, h, eσ25, zq_up_same]) else (by rw [if_neg h, eσ25, zq_up_ne (by omega), eσ21, zq_up_ne (by omega)]))⟩⟩
set_option maxHeartbeats 800000 in
theorem c_X4_writeNumber_2 {σ : zq_S} (hσ : zc_T σ) (number : Int) (q0 : 0 ≤ number ∧ number ≤ 4095) (q1 : σ 132 3 ≤ 13) (q2 : number ≤ 999) : zq_C zc_w yX4_writeNumber cX4_writeNumber 2 (none) 1 21 284 284 [ZR 132, ZI number] σ (zq_pv (fun τ => zc_T τ ∧ zc_Fr [(132, 3), (133, -1)] σ τ ∧ (τ 132 3 ≤ σ 132 3 + 3 ∧ (number < 10 → τ 132 3 = σ 132 3 + 1) ∧ zu_sc τ = zu_wn number (zu_sc σ)))) := by
  refine zq_C_of (by decide) (Nat.le_refl _) (Nat.le_of_ble_eq_true rfl) [some (ZR 132), some (ZI number)] rfl (fun V hV => ?_)
  have hFσ := zc_Fr_rf [(132, 3), (133, -1)] σ
  show V 0 [some (ZR 132), some (ZI number)] [] 284 σ
  refine zr_iload_n (pc := 0) hV dX4_writeNumber_0 rfl rfl ?_
  refine zr_bipush (pc := 1) hV 100 dX4_writeNumber_1 (by decide) ?_
  refine zr_icmp_lt (pc := 3) hV 17 dX4_writeNumber_3 (by decide) (by omega) ⟨by decide, by decide⟩ (fun c1 => ?_) (fun c1 => ?_)
  · show V 17 [some (ZR 132), some (ZI number)] [] 284 σ
    refine zr_iload_n (pc := 17) hV dX4_writeNumber_17 rfl rfl ?_
    refine zr_bipush (pc := 18) hV 10 dX4_writeNumber_18 (by decide) ?_
    refine zr_icmp_lt (pc := 20) hV 37 dX4_writeNumber_20 (by decide) (by omega) ⟨by decide, by decide⟩ (fun c2 => ?_) (fun c2 => ?_)
    · show V 37 [some (ZR 132), some (ZI number)] [] 284 σ
      refine zr_aload_n (pc := 37) hV dX4_writeNumber_37 rfl rfl ?_
      refine zr_bipush (pc := 38) hV 48 dX4_writeNumber_38 (by decide) ?_
      refine zr_iload_n (pc := 40) hV dX4_writeNumber_40 rfl rfl ?_
      refine zr_bipush (pc := 41) hV 10 dX4_writeNumber_41 (by decide) ?_
      refine zr_irem (pc := 43) hV dX4_writeNumber_43 ⟨by decide, by decide⟩ (by omega) ?_
      have t3 := zq_rem_c (x := number) 10 (by decide) (by omega)
      refine zr_iadd (pc := 44) hV dX4_writeNumber_44 ?_
      have t4 := zc_g132_3 hσ zc_s132
      refine zr_callVv (pc := 45) hV [ZI (48 + (zq_rem number 10))] (st := []) (c_X4_writeByte_2 (σ := σ) hσ (48 + (zq_rem number 10)) (by omega) (by omega)) dX4_writeNumber_45 mX4_157 (zc_k132 zc_s132) (zc_pos zc_s132 rfl) (by decide) (Nat.le_of_ble_eq_true rfl) (Nat.le_refl _) (fun σ45 pσ45 => ?_)
      obtain ⟨hσ45, hfσ45, pσ45⟩ := pσ45
      have hFσ45 := zc_Fc hfσ45 rfl hFσ
      have t5 := zc_g132_3 hσ zc_s132
      have t6 := zc_g132_3 hσ45 zc_s132
      have t7 := zc_g132_3 hσ45 zc_s132
      exact zr_vret (pc := 48) hV dX4_writeNumber_48 rfl rfl ⟨rfl, hσ45, hFσ45, ⟨by omega, by omega, by unfold zu_wn; rw [zu_wc_n (by omega), zu_wa_n (by omega), pσ45.2]⟩⟩
    · show V 23 [some (ZR 132), some (ZI number)] [] 284 σ
      refine zr_aload_n (pc := 23) hV dX4_writeNumber_23 rfl rfl ?_
      refine zr_bipush (pc := 24) hV 48 dX4_writeNumber_24 (by decide) ?_
      refine zr_iload_n (pc := 26) hV dX4_writeNumber_26 rfl rfl ?_
      refine zr_bipush (pc := 27) hV 10 dX4_writeNumber_27 (by decide) ?_
      refine zr_idiv (pc := 29) hV dX4_writeNumber_29 ⟨by decide, by decide⟩ (by omega) ?_
      have t8 := zq_div_c (x := number) 10 (by decide) (by omega)
      refine zr_bipush (pc := 30) hV 10 dX4_writeNumber_30 (by decide) ?_
      refine zr_irem (pc := 32) hV dX4_writeNumber_32 ⟨by decide, by decide⟩ (by omega) ?_
      have t9 := zq_rem_c (x := zq_div number 10) 10 (by decide) (by omega)
      refine zr_iadd (pc := 33) hV dX4_writeNumber_33 ?_
      have t10 := zc_g132_3 hσ zc_s132
      refine zr_callVv (pc := 34) hV [ZI (48 + (zq_rem (zq_div number 10) 10))] (st := []) (c_X4_writeByte_2 (σ := σ) hσ (48 + (zq_rem (zq_div number 10) 10)) (by omega) (by omega)) dX4_writeNumber_34 mX4_157 (zc_k132 zc_s132) (zc_pos zc_s132 rfl) (by decide) (Nat.le_of_ble_eq_true rfl) (Nat.le_refl _) (fun σ34 pσ34 => ?_)
      obtain ⟨hσ34, hfσ34, pσ34⟩ := pσ34
      have hFσ34 := zc_Fc hfσ34 rfl hFσ
      have t11 := zc_g132_3 hσ zc_s132
      have t12 := zc_g132_3 hσ34 zc_s132
      show V 37 [some (ZR 132), some (ZI number)] [] 284 σ34
      refine zr_aload_n (pc := 37) hV dX4_writeNumber_37 rfl rfl ?_
      refine zr_bipush (pc := 38) hV 48 dX4_writeNumber_38 (by decide) ?_
      refine zr_iload_n (pc := 40) hV dX4_writeNumber_40 rfl rfl ?_
      refine zr_bipush (pc := 41) hV 10 dX4_writeNumber_41 (by decide) ?_
      refine zr_irem (pc := 43) hV dX4_writeNumber_43 ⟨by decide, by decide⟩ (by omega) ?_
      have t13 := zq_rem_c (x := number) 10 (by decide) (by omega)
      refine zr_iadd (pc := 44) hV dX4_writeNumber_44 ?_
      have t14 := zc_g132_3 hσ34 zc_s132
      refine zr_callVv (pc := 45) hV [ZI (48 + (zq_rem number 10))] (st := []) (c_X4_writeByte_2 (σ := σ34) hσ34 (48 + (zq_rem number 10)) (by omega) (by omega)) dX4_writeNumber_45 mX4_157 (zc_k132 zc_s132) (zc_pos zc_s132 rfl) (by decide) (Nat.le_of_ble_eq_true rfl) (Nat.le_refl _) (fun σ45 pσ45 => ?_)
      obtain ⟨hσ45, hfσ45, pσ45⟩ := pσ45
      have hFσ45 := zc_Fc hfσ45 rfl hFσ34
      have t15 := zc_g132_3 hσ34 zc_s132
      have t16 := zc_g132_3 hσ45 zc_s132
      have t17 := zc_g132_3 hσ45 zc_s132
      exact zr_vret (pc := 48) hV dX4_writeNumber_48 rfl rfl ⟨rfl, hσ45, hFσ45, ⟨by omega, by omega, by unfold zu_wn; rw [zu_wc_y (by omega), zu_wa_n (by omega), pσ45.2, pσ34.2]⟩⟩
  · show V 6 [some (ZR 132), some (ZI number)] [] 284 σ
    refine zr_aload_n (pc := 6) hV dX4_writeNumber_6 rfl rfl ?_
    refine zr_bipush (pc := 7) hV 48 dX4_writeNumber_7 (by decide) ?_
    refine zr_iload_n (pc := 9) hV dX4_writeNumber_9 rfl rfl ?_
    refine zr_bipush (pc := 10) hV 100 dX4_writeNumber_10 (by decide) ?_
    refine zr_idiv (pc := 12) hV dX4_writeNumber_12 ⟨by decide, by decide⟩ (by omega) ?_
    have t18 := zq_div_c (x := number) 100 (by decide) (by omega)
    refine zr_iadd (pc := 13) hV dX4_writeNumber_13 ?_
    have t19 := zc_g132_3 hσ zc_s132
    refine zr_callVv (pc := 14) hV [ZI (48 + (zq_div number 100))] (st := []) (c_X4_writeByte_2 (σ := σ) hσ (48 + (zq_div number 100)) (by omega) (by omega)) dX4_writeNumber_14 mX4_157 (zc_k132 zc_s132) (zc_pos zc_s132 rfl) (by decide) (Nat.le_of_ble_eq_true rfl) (Nat.le_refl _) (fun σ14 pσ14 => ?_)
    obtain ⟨hσ14, hfσ14, pσ14⟩ := pσ14
    have hFσ14 := zc_Fc hfσ14 rfl hFσ
    have t20 := zc_g132_3 hσ zc_s132
    have t21 := zc_g132_3 hσ14 zc_s132
    show V 17 [some (ZR 132), some (ZI number)] [] 284 σ14
    refine zr_iload_n (pc := 17) hV dX4_writeNumber_17 rfl rfl ?_
    refine zr_bipush (pc := 18) hV 10 dX4_writeNumber_18 (by decide) ?_
    refine zr_icmp_lt (pc := 20) hV 37 dX4_writeNumber_20 (by decide) (by omega) ⟨by decide, by decide⟩ (fun c22 => ?_) (fun c22 => ?_)
    · exfalso; omega
    · show V 23 [some (ZR 132), some (ZI number)] [] 284 σ14
      refine zr_aload_n (pc := 23) hV dX4_writeNumber_23 rfl rfl ?_
      refine zr_bipush (pc := 24) hV 48 dX4_writeNumber_24 (by decide) ?_
      refine zr_iload_n (pc := 26) hV dX4_writeNumber_26 rfl rfl ?_
      refine zr_bipush (pc := 27) hV 10 dX4_writeNumber_27 (by decide) ?_
      refine zr_idiv (pc := 29) hV dX4_writeNumber_29 ⟨by decide, by decide⟩ (by omega) ?_
      have t23 := zq_div_c (x := number) 10 (by decide) (by omega)
      refine zr_bipush (pc := 30) hV 10 dX4_writeNumber_30 (by decide) ?_
      refine zr_irem (pc := 32) hV dX4_writeNumber_32 ⟨by decide, by decide⟩ (by omega) ?_
      have t24 := zq_rem_c (x := zq_div number 10) 10 (by decide) (by omega)
      refine zr_iadd (pc := 33) hV dX4_writeNumber_33 ?_
      have t25 := zc_g132_3 hσ14 zc_s132
      refine zr_callVv (pc := 34) hV [ZI (48 + (zq_rem (zq_div number 10) 10))] (st := []) (c_X4_writeByte_2 (σ := σ14) hσ14 (48 + (zq_rem (zq_div number 10) 10)) (by omega) (by omega)) dX4_writeNumber_34 mX4_157 (zc_k132 zc_s132) (zc_pos zc_s132 rfl) (by decide) (Nat.le_of_ble_eq_true rfl) (Nat.le_refl _) (fun σ34 pσ34 => ?_)
      obtain ⟨hσ34, hfσ34, pσ34⟩ := pσ34
      have hFσ34 := zc_Fc hfσ34 rfl hFσ14
      have t26 := zc_g132_3 hσ14 zc_s132
      have t27 := zc_g132_3 hσ34 zc_s132
      show V 37 [some (ZR 132), some (ZI number)] [] 284 σ34
      refine zr_aload_n (pc := 37) hV dX4_writeNumber_37 rfl rfl ?_
      refine zr_bipush (pc := 38) hV 48 dX4_writeNumber_38 (by decide) ?_
      refine zr_iload_n (pc := 40) hV dX4_writeNumber_40 rfl rfl ?_
      refine zr_bipush (pc := 41) hV 10 dX4_writeNumber_41 (by decide) ?_
      refine zr_irem (pc := 43) hV dX4_writeNumber_43 ⟨by decide, by decide⟩ (by omega) ?_
      have t28 := zq_rem_c (x := number) 10 (by decide) (by omega)
      refine zr_iadd (pc := 44) hV dX4_writeNumber_44 ?_
      have t29 := zc_g132_3 hσ34 zc_s132
      refine zr_callVv (pc := 45) hV [ZI (48 + (zq_rem number 10))] (st := []) (c_X4_writeByte_2 (σ := σ34) hσ34 (48 + (zq_rem number 10)) (by omega) (by omega)) dX4_writeNumber_45 mX4_157 (zc_k132 zc_s132) (zc_pos zc_s132 rfl) (by decide) (Nat.le_of_ble_eq_true rfl) (Nat.le_refl _) (fun σ45 pσ45 => ?_)
      obtain ⟨hσ45, hfσ45, pσ45⟩ := pσ45
      have hFσ45 := zc_Fc hfσ45 rfl hFσ34
      have t30 := zc_g132_3 hσ34 zc_s132
      have t31 := zc_g132_3 hσ45 zc_s132
      have t32 := zc_g132_3 hσ45 zc_s132
      exact zr_vret (pc := 48) hV dX4_writeNumber_48 rfl rfl ⟨rfl, hσ45, hFσ45, ⟨by omega, by omega, by unfold zu_wn; rw [zu_wc_y (by omega), zu_wa_y (by omega), pσ45.2, pσ34.2, pσ14.2]⟩⟩
set_option maxHeartbeats 800000 in
theorem c_X4_writeLine_2 {σ : zq_S} (hσ : zc_T σ) (order : Int) (korder : zc_kd order = 4) (bits : Int) (q0 : 0 ≤ bits ∧ bits ≤ 4095) (q1 : ∀ f, 0 ≤ f → f ≤ 2 → zu_cv σ order bits f ≤ 7) (q2 : zu_cv σ order bits 3 ≤ 255) : zq_C zc_w yX4_writeLine cX4_writeLine 5 (none) 2 42 284 284 [ZR 132, ZR order, ZI bits] σ (zq_pv (fun τ => zc_T τ ∧ zc_Fr [(132, 3), (133, -1)] σ τ ∧ (zu_sc τ = zu_tc σ order bits (σ 133)))) := by
  refine zq_C_of (by decide) (Nat.le_refl _) (Nat.le_of_ble_eq_true rfl) [some (ZR 132), some (ZR order), some (ZI bits), none, none] rfl (fun V hV => ?_)
  have poorder := zc_pos korder rfl
  have hFσ := zc_Fr_rf [(132, 3), (133, -1)] σ
  show V 0 [some (ZR 132), some (ZR order), some (ZI bits), none, none] [] 284 σ
  refine zr_aload_n (pc := 0) hV dX4_writeLine_0 rfl rfl ?_
  refine zr_iconst (pc := 1) hV 0 dX4_writeLine_1 rfl ?_
  refine zr_putI (pc := 2) hV 3 dX4_writeLine_2 fX4_154 rfl rfl rfl (zc_k132 zc_s132) (zc_pos zc_s132 rfl) (fun σ2 eσ2 => ?_)
  have hσ2 : zc_T σ2 := zc_u132_3 eσ2 hσ zc_s132 (by omega)
  have hFσ2 := zc_Fw eσ2 zc_s132 rfl hFσ
  refine zr_bipush (pc := 5) hV 16 dX4_writeLine_5 (by decide) ?_
  refine zr_istore_n (pc := 7) hV [some (ZR 132), some (ZR order), some (ZI bits), some (ZI 16), none] dX4_writeLine_7 rfl (by decide) rfl rfl ?_
  have L8 : ∀ (fuel : Nat) (x3_8 : Int) (σ_8 : zq_S) (k8 : Int), ((-8) ≤ x3_8 ∧ x3_8 ≤ 16) → (zc_T σ_8) → (zc_Fr [(132, 3), (133, -1)] σ σ_8) → (0 ≤ k8 ∧ k8 ≤ 3) → (x3_8 = 16 - 8 * k8) → (zu_sc σ_8 = (zu_nmw (zu_cP (σ order 0)) (zu_cB (σ order 0)) (0, σ 133) k8)) → (σ_8 132 3 ≤ k8) → x3_8 + 8 < (fuel : Int) → V 8 [some (ZR 132), some (ZR order), some (ZI bits), some (ZI x3_8), none] [] 284 σ_8 := by
    intro fuel
    induction fuel with
    | zero =>
      intro x3_8 σ_8 k8 hx3_8 hσ_8 hFσ_8 hi8_0 hi8_1 hi8_2 hi8_3 hm8
      exfalso; omega
    | succ fuel ih =>
      intro x3_8 σ_8 k8 hx3_8 hσ_8 hFσ_8 hi8_0 hi8_1 hi8_2 hi8_3 hm8
      have ih8 := ih
      show V 8 [some (ZR 132), some (ZR order), some (ZI bits), some (ZI x3_8), none] [] 284 σ_8
      refine zr_iload_n (pc := 8) hV dX4_writeLine_8 rfl rfl ?_
      refine zr_if_lt (pc := 9) hV 41 dX4_writeLine_9 (by decide) (by omega) (fun c1 => ?_) (fun c1 => ?_)
      · show V 41 [some (ZR 132), some (ZR order), some (ZI bits), some (ZI x3_8), none] [] 284 σ_8
        refine zr_bipush (pc := 41) hV 32 dX4_writeLine_41 (by decide) ?_
        refine zr_istore_n (pc := 43) hV [some (ZR 132), some (ZR order), some (ZI bits), some (ZI 32), none] dX4_writeLine_43 rfl (by decide) rfl rfl ?_
        refine zr_iconst (pc := 44) hV 0 dX4_writeLine_44 rfl ?_
        refine zr_istore (pc := 45) hV [some (ZR 132), some (ZR order), some (ZI bits), some (ZI 32), some (ZI 0)] dX4_writeLine_45 (by decide) rfl rfl ?_
        have L47 : ∀ (fuel : Nat) (x3_47 : Int) (x4_47 : Int) (σ_47 : zq_S), (32 ≤ x3_47 ∧ x3_47 ≤ 44) → (0 ≤ x4_47 ∧ x4_47 ≤ 4) → (zc_T σ_47) → (zc_Fr [(132, 3), (133, -1)] σ σ_47) → (zu_sc σ_47 = (zu_fs (zu_cH σ order) (zu_cv σ order bits) (zu_nmw (zu_cP (σ order 0)) (zu_cB (σ order 0)) (0, σ 133) 3) x4_47)) → (x3_47 = zu_sep (zu_cH σ order) x4_47) → (x4_47 ≤ 3 → σ_47 132 3 ≤ 3 + 2 * x4_47) → (σ_47 132 3 ≤ 13) → 4 - x4_47 < (fuel : Int) → V 47 [some (ZR 132), some (ZR order), some (ZI bits), some (ZI x3_47), some (ZI x4_47)] [] 284 σ_47 := by
          intro fuel
          induction fuel with
          | zero =>
            intro x3_47 x4_47 σ_47 hx3_47 hx4_47 hσ_47 hFσ_47 hi47_0 hi47_1 hi47_2 hi47_3 hm47
            exfalso; omega
          | succ fuel ih =>
            intro x3_47 x4_47 σ_47 hx3_47 hx4_47 hσ_47 hFσ_47 hi47_0 hi47_1 hi47_2 hi47_3 hm47
            have ih47 := ih
            show V 47 [some (ZR 132), some (ZR order), some (ZI bits), some (ZI x3_47), some (ZI x4_47)] [] 284 σ_47
            refine zr_iload (pc := 47) hV dX4_writeLine_47 rfl ?_
            refine zr_iconst (pc := 49) hV 3 dX4_writeLine_49 rfl ?_
            refine zr_icmp_gt (pc := 50) hV 87 dX4_writeLine_50 (by decide) (by omega) ⟨by decide, by decide⟩ (fun c2 => ?_) (fun c2 => ?_)
            · show V 87 [some (ZR 132), some (ZR order), some (ZI bits), some (ZI x3_47), some (ZI x4_47)] [] 284 σ_47
              exact zr_vret (pc := 87) hV dX4_writeLine_87 rfl rfl ⟨rfl, hσ_47, hFσ_47, (by unfold zu_tc; rw [hi47_0, show x4_47 = 4 by omega])⟩
            · show V 53 [some (ZR 132), some (ZR order), some (ZI bits), some (ZI x3_47), some (ZI x4_47)] [] 284 σ_47
              refine zr_aload_n (pc := 53) hV dX4_writeLine_53 rfl rfl ?_
              refine zr_iload (pc := 54) hV dX4_writeLine_54 rfl ?_
              refine zr_callVp (pc := 56) hV [ZI x4_47] (st := []) (c_X3_hasField_2 (σ := σ_47) hσ_47 order korder x4_47 (by omega)) dX4_writeLine_56 mX4_99 (zc_k4 korder) (zc_pos korder rfl) (by decide) (Nat.le_of_ble_eq_true rfl) (Nat.le_refl _) (fun r56 hr56 pr56 => ?_)
              have fh : σ_47 (order + 1) x4_47 = σ (order + 1) x4_47 := hFσ_47 _ _ (zc_out_ar (zc_p4_1 korder) rfl)
              rw [fh] at pr56
              refine zr_if_eq (pc := 59) hV 81 dX4_writeLine_59 (by decide) (by omega) (fun c3 => ?_) (fun c3 => ?_)
              · show V 81 [some (ZR 132), some (ZR order), some (ZI bits), some (ZI x3_47), some (ZI x4_47)] [] 284 σ_47
                refine zr_iinc (pc := 81) hV [some (ZR 132), some (ZR order), some (ZI bits), some (ZI x3_47), some (ZI (x4_47 + 1))] (x4_47 + 1) dX4_writeLine_81 rfl rfl (by decide) rfl rfl ?_
                refine zr_goto (pc := 84) hV 47 dX4_writeLine_84 (by decide) ?_
                have t4 := zc_g132_3 hσ_47 zc_s132
                have t5 := zc_g132_3 hσ_47 zc_s132
                exact ih47 x3_47 (x4_47 + 1) σ_47 (by omega) (by omega) hσ_47 hFσ_47 (by rw [hi47_0]; exact (zu_fs_n (by omega) (fun q => absurd (of_decide_eq_true q) (by omega))).symm) (by rw [hi47_1]; exact (zu_sep_n (by omega) (fun q => absurd (of_decide_eq_true q) (by omega))).symm) (by omega) (by omega) (by omega)
              · show V 62 [some (ZR 132), some (ZR order), some (ZI bits), some (ZI x3_47), some (ZI x4_47)] [] 284 σ_47
                refine zr_aload_n (pc := 62) hV dX4_writeLine_62 rfl rfl ?_
                refine zr_iload_n (pc := 63) hV dX4_writeLine_63 rfl rfl ?_
                have t6 := zc_g132_3 hσ_47 zc_s132
                refine zr_callVv (pc := 64) hV [ZI x3_47] (st := []) (c_X4_writeByte_2 (σ := σ_47) hσ_47 x3_47 (by omega) (by omega)) dX4_writeLine_64 mX4_157 (zc_k132 zc_s132) (zc_pos zc_s132 rfl) (by decide) (Nat.le_of_ble_eq_true rfl) (Nat.le_refl _) (fun σ64 pσ64 => ?_)
                obtain ⟨hσ64, hfσ64, pσ64⟩ := pσ64
                have hFσ64 := zc_Fc hfσ64 rfl hFσ_47
                have t7 := zc_g132_3 hσ_47 zc_s132
                have t8 := zc_g132_3 hσ64 zc_s132
                refine zr_aload_n (pc := 67) hV dX4_writeLine_67 rfl rfl ?_
                refine zr_aload_n (pc := 68) hV dX4_writeLine_68 rfl rfl ?_
                refine zr_iload_n (pc := 69) hV dX4_writeLine_69 rfl rfl ?_
                refine zr_iload (pc := 70) hV dX4_writeLine_70 rfl ?_
                refine zr_callVp (pc := 72) hV [ZI bits, ZI x4_47] (st := [ZR 132]) (c_X3_fieldOf_2 (σ := σ64) hσ64 order korder bits x4_47 (by omega) (by omega)) dX4_writeLine_72 mX4_161 (zc_k4 korder) (zc_pos korder rfl) (by decide) (Nat.le_of_ble_eq_true rfl) (Nat.le_refl _) (fun r72 hr72 pr72 => ?_)
                have fg : σ64 (order + 1) x4_47 = σ (order + 1) x4_47 := hFσ64 _ _ (zc_out_ar (zc_p4_1 korder) rfl)
                have zr72 : r72 = zu_cv σ order bits x4_47 := by rw [pr72.2, fg]; rfl
                have zv : (x4_47 ≤ 2 → r72 ≤ 7) ∧ r72 ≤ 255 := ⟨fun h => by rw [zr72]; exact q1 _ (by omega) h, if h : x4_47 ≤ 2 then (by have := q1 x4_47 (by omega) h; omega) else (by rw [zr72, show x4_47 = 3 by omega]; exact q2)⟩
                have t9 := zc_g132_3 hσ64 zc_s132
                refine zr_callVv (pc := 75) hV [ZI r72] (st := []) (c_X4_writeNumber_2 (σ := σ64) hσ64 r72 (by omega) (by omega) (by omega)) dX4_writeLine_75 mX4_165 (zc_k132 zc_s132) (zc_pos zc_s132 rfl) (by decide) (Nat.le_of_ble_eq_true rfl) (Nat.le_refl _) (fun σ75 pσ75 => ?_)
                obtain ⟨hσ75, hfσ75, pσ75⟩ := pσ75
                have hFσ75 := zc_Fc hfσ75 rfl hFσ64
                have t10 := zc_g132_3 hσ64 zc_s132
                have t11 := zc_g132_3 hσ75 zc_s132
                refine zr_bipush (pc := 78) hV 44 dX4_writeLine_78 (by decide) ?_
                refine zr_istore_n (pc := 80) hV [some (ZR 132), some (ZR order), some (ZI bits), some (ZI 44), some (ZI x4_47)] dX4_writeLine_80 rfl (by decide) rfl rfl ?_
                show V 81 [some (ZR 132), some (ZR order), some (ZI bits), some (ZI 44), some (ZI x4_47)] [] 284 σ75
                refine zr_iinc (pc := 81) hV [some (ZR 132), some (ZR order), some (ZI bits), some (ZI 44), some (ZI (x4_47 + 1))] (x4_47 + 1) dX4_writeLine_81 rfl rfl (by decide) rfl rfl ?_
                refine zr_goto (pc := 84) hV 47 dX4_writeLine_84 (by decide) ?_
                have t12 := zc_g132_3 hσ75 zc_s132
                have t13 := zc_g132_3 hσ75 zc_s132
                exact ih47 44 (x4_47 + 1) σ75 (by omega) (by omega) hσ75 hFσ75 (by rw [pσ75.2.2, pσ64.2, hi47_0, hi47_1, zr72]; exact (zu_fs_y (by omega) (decide_eq_true (by omega))).symm) (zu_sep_y (by omega) (decide_eq_true (by omega))).symm (by omega) (by omega) (by omega)
        have t14 := zc_g132_3 hσ_8 zc_s132
        have t15 := zc_g132_3 hσ_8 zc_s132
        exact L47 (4 - (0 : Int) + 1 : Int).toNat 32 0 σ_8 (by omega) (by omega) hσ_8 hFσ_8 (by rw [zu_fs_z, show (3 : Int) = k8 by omega]; exact hi8_2) (zu_sep_z _).symm (by omega) (by omega) (by omega)
      · show V 12 [some (ZR 132), some (ZR order), some (ZI bits), some (ZI x3_8), none] [] 284 σ_8
        have fn : σ_8 order 0 = σ order 0 := hFσ_8 order 0 (zc_out_at korder rfl)
        refine zr_aload_n (pc := 12) hV dX4_writeLine_12 rfl rfl ?_
        refine zr_getI (pc := 13) hV 0 dX4_writeLine_13 fX4_66 rfl rfl (zc_k4 korder) (zc_pos korder rfl) ?_
        have t16 := zc_g4_0 hσ_8 korder
        have t17 : σ_8 order 0 = σ order 0 := hFσ_8 _ _ (zc_out_at korder rfl)
        refine zr_iload_n (pc := 16) hV dX4_writeLine_16 rfl rfl ?_
        refine zr_ishr (pc := 17) hV dX4_writeLine_17 ?_
        have t18 := zq_shr_in (σ_8 order 0) x3_8
        refine zr_if_eq (pc := 18) hV 35 dX4_writeLine_18 (by decide) (by omega) (fun c19 => ?_) (fun c19 => ?_)
        · show V 35 [some (ZR 132), some (ZR order), some (ZI bits), some (ZI x3_8), none] [] 284 σ_8
          refine zr_iinc (pc := 35) hV [some (ZR 132), some (ZR order), some (ZI bits), some (ZI (x3_8 + (-8))), none] (x3_8 + (-8)) dX4_writeLine_35 rfl rfl (by decide) rfl rfl ?_
          refine zr_goto (pc := 38) hV 8 dX4_writeLine_38 (by decide) ?_
          have t20 := zc_g132_3 hσ_8 zc_s132
          exact ih8 (x3_8 + (-8)) σ_8 (k8 + 1) (by omega) hσ_8 hFσ_8 (by omega) (by omega) (by rw [hi8_2]; exact (zu_nmw_n (by omega) (fun q => absurd (of_decide_eq_true q) (by rw [← fn, ← (show x3_8 = 16 - 8 * k8 by omega)]; omega))).symm) (by omega) (by omega)
        · show V 21 [some (ZR 132), some (ZR order), some (ZI bits), some (ZI x3_8), none] [] 284 σ_8
          refine zr_aload_n (pc := 21) hV dX4_writeLine_21 rfl rfl ?_
          refine zr_aload_n (pc := 22) hV dX4_writeLine_22 rfl rfl ?_
          refine zr_getI (pc := 23) hV 0 dX4_writeLine_23 fX4_66 rfl rfl (zc_k4 korder) (zc_pos korder rfl) ?_
          have t21 := zc_g4_0 hσ_8 korder
          have t22 : σ_8 order 0 = σ order 0 := hFσ_8 _ _ (zc_out_at korder rfl)
          refine zr_iload_n (pc := 26) hV dX4_writeLine_26 rfl rfl ?_
          refine zr_ishr (pc := 27) hV dX4_writeLine_27 ?_
          have t23 := zq_shr_in (σ_8 order 0) x3_8
          refine zr_sipush (pc := 28) hV 255 dX4_writeLine_28 (by decide) ?_
          refine zr_iand (pc := 31) hV dX4_writeLine_31 ?_
          have t24 := zq_and_mask (zq_shr (σ_8 order 0) x3_8) 8 255 256 (by decide) (by decide) (by decide)
          have t25 := zc_g4_0 hσ_8 korder
          have t26 : σ_8 order 0 = σ order 0 := hFσ_8 _ _ (zc_out_at korder rfl)
          have t27 := zc_g132_3 hσ_8 zc_s132
          refine zr_callVv (pc := 32) hV [ZI (zq_and (zq_shr (σ_8 order 0) x3_8) 255)] (st := []) (c_X4_writeByte_2 (σ := σ_8) hσ_8 (zq_and (zq_shr (σ_8 order 0) x3_8) 255) (by omega) (by omega)) dX4_writeLine_32 mX4_157 (zc_k132 zc_s132) (zc_pos zc_s132 rfl) (by decide) (Nat.le_of_ble_eq_true rfl) (Nat.le_refl _) (fun σ32 pσ32 => ?_)
          obtain ⟨hσ32, hfσ32, pσ32⟩ := pσ32
          have hFσ32 := zc_Fc hfσ32 rfl hFσ_8
          have t28 := zc_g132_3 hσ_8 zc_s132
          have t29 := zc_g4_0 hσ_8 korder
          have t30 : σ_8 order 0 = σ order 0 := hFσ_8 _ _ (zc_out_at korder rfl)
          have t31 := zc_g132_3 hσ32 zc_s132
          show V 35 [some (ZR 132), some (ZR order), some (ZI bits), some (ZI x3_8), none] [] 284 σ32
          refine zr_iinc (pc := 35) hV [some (ZR 132), some (ZR order), some (ZI bits), some (ZI (x3_8 + (-8))), none] (x3_8 + (-8)) dX4_writeLine_35 rfl rfl (by decide) rfl rfl ?_
          refine zr_goto (pc := 38) hV 8 dX4_writeLine_38 (by decide) ?_
          have t32 := zc_g132_3 hσ32 zc_s132
          exact ih8 (x3_8 + (-8)) σ32 (k8 + 1) (by omega) hσ32 hFσ32 (by omega) (by omega) (by rw [pσ32.2, hi8_2, fn, show x3_8 = 16 - 8 * k8 by omega]; exact (zu_nmw_y (by omega) (decide_eq_true (by rw [← fn, ← (show x3_8 = 16 - 8 * k8 by omega)]; omega))).symm) (by omega) (by omega)
  have t33 := zc_g132_3 hσ2 zc_s132
  have t34 : σ2 132 3 = 0 := by rw [eσ2]; exact zq_up_same _ _ _ _
  exact L8 ((16 : Int) + 8 + 1 : Int).toNat 16 σ2 0 (by omega) hσ2 hFσ2 (by omega) (by omega) (Prod.ext (show σ2 132 3 = 0 by rw [eσ2, zq_up_same]) (funext (fun j => by show σ2 133 j = σ 133 j; rw [eσ2, zq_up_ne (by omega)]))) (by omega) (by omega)
set_option maxHeartbeats 800000 in
theorem c_X4_byteAt_2 {σ : zq_S} (hσ : zc_T σ) (k : Int) (q0 : zq_in k) : zq_C zc_w yX4_byteAt cX4_byteAt 2 (some .int) 0 0 284 284 [ZR 132, ZI k] σ (zq_pp σ (fun r => (0 ≤ k ∧ k < σ 132 3 → r = σ 133 k) ∧ (¬ (0 ≤ k ∧ k < σ 132 3) → r = -1))) := by
  refine zq_C_of (by decide) (Nat.le_refl _) (Nat.le_of_ble_eq_true rfl) [some (ZR 132), some (ZI k)] rfl (fun V hV => ?_)
  show V 0 [some (ZR 132), some (ZI k)] [] 284 σ
  refine zr_iload_n (pc := 0) hV dX4_byteAt_0 rfl rfl ?_
  refine zr_if_lt (pc := 1) hV 21 dX4_byteAt_1 (by decide) (by omega) (fun c1 => ?_) (fun c1 => ?_)
  · show V 21 [some (ZR 132), some (ZI k)] [] 284 σ
    refine zr_iconst (pc := 21) hV (-1) dX4_byteAt_21 rfl ?_
    show V 22 [some (ZR 132), some (ZI k)] [ZI (-1)] 284 σ
    exact zr_iret (pc := 22) hV dX4_byteAt_22 rfl rfl ⟨rfl, _, rfl, ⟨by decide, by decide⟩, (by omega)⟩
  · show V 4 [some (ZR 132), some (ZI k)] [] 284 σ
    refine zr_iload_n (pc := 4) hV dX4_byteAt_4 rfl rfl ?_
    refine zr_aload_n (pc := 5) hV dX4_byteAt_5 rfl rfl ?_
    refine zr_getI (pc := 6) hV 3 dX4_byteAt_6 fX4_154 rfl rfl (zc_k132 zc_s132) (zc_pos zc_s132 rfl) ?_
    have t2 := zc_g132_3 hσ zc_s132
    refine zr_icmp_ge (pc := 9) hV 21 dX4_byteAt_9 (by decide) (by omega) (by omega) (fun c3 => ?_) (fun c3 => ?_)
    · show V 21 [some (ZR 132), some (ZI k)] [] 284 σ
      refine zr_iconst (pc := 21) hV (-1) dX4_byteAt_21 rfl ?_
      show V 22 [some (ZR 132), some (ZI k)] [ZI (-1)] 284 σ
      exact zr_iret (pc := 22) hV dX4_byteAt_22 rfl rfl ⟨rfl, _, rfl, ⟨by decide, by decide⟩, (by omega)⟩
    · show V 12 [some (ZR 132), some (ZI k)] [] 284 σ
      refine zr_aload_n (pc := 12) hV dX4_byteAt_12 rfl rfl ?_
      refine zr_getR (pc := 13) hV 2 133 dX4_byteAt_13 fX4_11 rfl rfl (zc_k132 zc_s132) (zc_pos zc_s132 rfl) (zc_g132_2 hσ zc_s132) (by decide) ?_
      refine zr_iload_n (pc := 16) hV dX4_byteAt_16 rfl rfl ?_
      refine zr_iald (pc := 17) hV dX4_byteAt_17 (zc_k133 zc_s133) (zc_pos zc_s133 rfl) rfl (by omega) ?_
      have t4 := zc_ga133 hσ zc_s133 k
      refine zr_goto (pc := 18) hV 22 dX4_byteAt_18 (by decide) ?_
      show V 22 [some (ZR 132), some (ZI k)] [ZI (σ 133 k)] 284 σ
      exact zr_iret (pc := 22) hV dX4_byteAt_22 rfl rfl ⟨rfl, _, rfl, (by omega), (by omega)⟩
set_option maxHeartbeats 800000 in
theorem c_X11_text_2 {σ : zq_S} (hσ : zc_T σ) (bits : Int) (k : Int) (q0 : zq_in bits) (q1 : zq_in k) (q2 : ∀ o x, 0 ≤ o → o < σ 3 3 → 0 ≤ x → x < zx_p2 (σ 3 2) → (∀ f, 0 ≤ f → f ≤ 2 → zu_cv σ (σ 10 o) x f ≤ 7) ∧ zu_cv σ (σ 10 o) x 3 ≤ 255) (Uσ : zc_U σ) : zq_C zc_w yX11_text cX11_text 4 (some .int) 3 66 284 284 [ZR 0, ZI bits, ZI k] σ (zq_pi (fun r τ => zc_T τ ∧ zc_Fr [(132, 3), (133, -1)] σ τ ∧ (True) ∧ zq_hid ((¬ (0 ≤ bits ∧ bits < zx_p2 (σ 3 2) ∧ -1 ≤ k) → r = -1) ∧ ((0 ≤ bits ∧ bits < zx_p2 (σ 3 2) ∧ -1 ≤ k) → (¬ (0 ≤ σ 11 bits ∧ σ 11 bits < σ 3 3) → r = -4) ∧ ((0 ≤ σ 11 bits ∧ σ 11 bits < σ 3 3) → zu_tq (zu_tc σ (σ 10 (σ 11 bits)) bits (σ 133)) k r))) ∧ zc_U τ)) := by
  refine zq_C_of (by decide) (Nat.le_refl _) (Nat.le_of_ble_eq_true rfl) [some (ZR 0), some (ZI bits), some (ZI k), none] rfl (fun V hV => ?_)
  have hFσ := zc_Fr_rf [(132, 3), (133, -1)] σ
  show V 0 [some (ZR 0), some (ZI bits), some (ZI k), none] [] 284 σ
  refine zr_aload_n (pc := 0) hV dX11_text_0 rfl rfl ?_
  refine zr_getR (pc := 1) hV 1 3 dX11_text_1 fX11_19 rfl rfl (zc_k0 zc_s0) (zc_pos zc_s0 rfl) (zc_g0_1 hσ zc_s0) (by decide) ?_
  refine zr_iload_n (pc := 4) hV dX11_text_4 rfl rfl ?_
  refine zr_callVp (pc := 5) hV [ZI bits] (st := []) (c_X9_isBits_2 (σ := σ) hσ bits (by omega)) dX11_text_5 mX11_127 (zc_k3 zc_s3) (zc_pos zc_s3 rfl) (by decide) (Nat.le_of_ble_eq_true rfl) (Nat.le_refl _) (fun r5 hr5 pr5 => ?_)
  have t1 := zc_g3_2 hσ zc_s3
  refine zr_if_eq (pc := 8) hV 16 dX11_text_8 (by decide) (by omega) (fun c2 => ?_) (fun c2 => ?_)
  · show V 16 [some (ZR 0), some (ZI bits), some (ZI k), none] [] 284 σ
    refine zr_iconst (pc := 16) hV (-1) dX11_text_16 rfl ?_
    exact zr_iret (pc := 17) hV dX11_text_17 rfl rfl ⟨_, rfl, ⟨by decide, by decide⟩, hσ, hFσ, trivial, (show (¬ (0 ≤ bits ∧ bits < zx_p2 (σ 3 2) ∧ -1 ≤ k) → ((-1) : Int) = -1) ∧ ((0 ≤ bits ∧ bits < zx_p2 (σ 3 2) ∧ -1 ≤ k) → (¬ (0 ≤ σ 11 bits ∧ σ 11 bits < σ 3 3) → ((-1) : Int) = -4) ∧ ((0 ≤ σ 11 bits ∧ σ 11 bits < σ 3 3) → zu_tq (zu_tc σ (σ 10 (σ 11 bits)) bits (σ 133)) k ((-1) : Int))) from ⟨fun _ => rfl, fun h => absurd h (by omega)⟩), Uσ⟩
  · show V 11 [some (ZR 0), some (ZI bits), some (ZI k), none] [] 284 σ
    refine zr_iload_n (pc := 11) hV dX11_text_11 rfl rfl ?_
    refine zr_iconst (pc := 12) hV (-1) dX11_text_12 rfl ?_
    refine zr_icmp_ge (pc := 13) hV 18 dX11_text_13 (by decide) (by omega) ⟨by decide, by decide⟩ (fun c3 => ?_) (fun c3 => ?_)
    · show V 18 [some (ZR 0), some (ZI bits), some (ZI k), none] [] 284 σ
      refine zr_aload_n (pc := 18) hV dX11_text_18 rfl rfl ?_
      refine zr_getR (pc := 19) hV 1 3 dX11_text_19 fX11_19 rfl rfl (zc_k0 zc_s0) (zc_pos zc_s0 rfl) (zc_g0_1 hσ zc_s0) (by decide) ?_
      refine zr_iload_n (pc := 22) hV dX11_text_22 rfl rfl ?_
      refine zr_callVr (pc := 23) hV [ZI bits] (st := []) (c_X9_orderOf_2 (σ := σ) hσ bits (by omega)) dX11_text_23 mX11_134 (zc_k3 zc_s3) (zc_pos zc_s3 rfl) (by decide) (Nat.le_of_ble_eq_true rfl) (Nat.le_refl _) (fun r23 pr23 => ?_)
      refine zr_astore_nQ (pc := 26) hV [some (ZR 0), some (ZI bits), some (ZI k), some (zq_nr r23)] dX11_text_26 rfl (by decide) rfl rfl ?_
      refine zr_aload_nQ (pc := 27) hV dX11_text_27 rfl rfl ?_
      by_cases c4 : r23 < 0
      · rw [zq_nr_n c4]
        refine zr_ifnonnullN (pc := 28) hV dX11_text_28 ?_
        show V 31 [some (ZR 0), some (ZI bits), some (ZI k), some (ZN)] [] 284 σ
        refine zr_bipush (pc := 31) hV (-4) dX11_text_31 (by decide) ?_
        exact zr_iret (pc := 33) hV dX11_text_33 rfl rfl ⟨_, rfl, ⟨by decide, by decide⟩, hσ, hFσ, trivial, (show (¬ (0 ≤ bits ∧ bits < zx_p2 (σ 3 2) ∧ -1 ≤ k) → ((-4) : Int) = -1) ∧ ((0 ≤ bits ∧ bits < zx_p2 (σ 3 2) ∧ -1 ≤ k) → (¬ (0 ≤ σ 11 bits ∧ σ 11 bits < σ 3 3) → ((-4) : Int) = -4) ∧ ((0 ≤ σ 11 bits ∧ σ 11 bits < σ 3 3) → zu_tq (zu_tc σ (σ 10 (σ 11 bits)) bits (σ 133)) k ((-4) : Int))) from ⟨fun h => absurd (by omega) h, fun _ => ⟨fun _ => rfl, fun o => absurd o (pr23.2.2 (by omega))⟩⟩), Uσ⟩
      · rw [zq_nr_p c4]
        have kr23 : zc_kd r23 = 4 := pr23.1 (by omega)
        have por23 := zc_pos kr23 rfl
        refine zr_ifnonnull (pc := 28) hV 34 dX11_text_28 (by decide) ?_
        show V 34 [some (ZR 0), some (ZI bits), some (ZI k), some (ZR r23)] [] 284 σ
        refine zr_aload_n (pc := 34) hV dX11_text_34 rfl rfl ?_
        refine zr_getR (pc := 35) hV 2 132 dX11_text_35 fX11_28 rfl rfl (zc_k0 zc_s0) (zc_pos zc_s0 rfl) (zc_g0_2 hσ zc_s0) (by decide) ?_
        refine zr_aload_n (pc := 38) hV dX11_text_38 rfl rfl ?_
        refine zr_iload_n (pc := 39) hV dX11_text_39 rfl rfl ?_
        refine zr_callVv (pc := 40) hV [ZR r23, ZI bits] (st := []) (c_X4_writeLine_2 (σ := σ) hσ r23 kr23 bits (by omega) (by rw [(pr23.2.1 (by omega)).2]; exact (q2 _ bits (pr23.2.1 (by omega)).1.1 (pr23.2.1 (by omega)).1.2 (by omega) (by omega)).1) (by rw [(pr23.2.1 (by omega)).2]; exact (q2 _ bits (pr23.2.1 (by omega)).1.1 (pr23.2.1 (by omega)).1.2 (by omega) (by omega)).2)) dX11_text_40 mX11_218 (zc_k132 zc_s132) (zc_pos zc_s132 rfl) (by decide) (Nat.le_of_ble_eq_true rfl) (Nat.le_refl _) (fun σ40 pσ40 => ?_)
        obtain ⟨hσ40, hfσ40, pσ40⟩ := pσ40
        have hFσ40 := zc_Fc hfσ40 rfl hFσ
        have Uσ40 : zc_U σ40 := zc_U_fr hfσ40 rfl hσ Uσ
        refine zr_iload_n (pc := 43) hV dX11_text_43 rfl rfl ?_
        refine zr_iconst (pc := 44) hV (-1) dX11_text_44 rfl ?_
        refine zr_icmp_ne (pc := 45) hV 58 dX11_text_45 (by decide) (by omega) ⟨by decide, by decide⟩ (fun c5 => ?_) (fun c5 => ?_)
        · show V 58 [some (ZR 0), some (ZI bits), some (ZI k), some (ZR r23)] [] 284 σ40
          refine zr_aload_n (pc := 58) hV dX11_text_58 rfl rfl ?_
          refine zr_getR (pc := 59) hV 2 132 dX11_text_59 fX11_28 rfl rfl (zc_k0 zc_s0) (zc_pos zc_s0 rfl) (zc_g0_2 hσ40 zc_s0) (by decide) ?_
          refine zr_iload_n (pc := 62) hV dX11_text_62 rfl rfl ?_
          refine zr_callVp (pc := 63) hV [ZI k] (st := []) (c_X4_byteAt_2 (σ := σ40) hσ40 k (by omega)) dX11_text_63 mX11_225 (zc_k132 zc_s132) (zc_pos zc_s132 rfl) (by decide) (Nat.le_of_ble_eq_true rfl) (Nat.le_refl _) (fun r63 hr63 pr63 => ?_)
          have t6 := zc_g132_3 hσ40 zc_s132
          show V 66 [some (ZR 0), some (ZI bits), some (ZI k), some (ZR r23)] [ZI r63] 284 σ40
          exact zr_iret (pc := 66) hV dX11_text_66 rfl rfl ⟨_, rfl, (by omega), hσ40, hFσ40, trivial, (show (¬ (0 ≤ bits ∧ bits < zx_p2 (σ 3 2) ∧ -1 ≤ k) → r63 = -1) ∧ ((0 ≤ bits ∧ bits < zx_p2 (σ 3 2) ∧ -1 ≤ k) → (¬ (0 ≤ σ 11 bits ∧ σ 11 bits < σ 3 3) → r63 = -4) ∧ ((0 ≤ σ 11 bits ∧ σ 11 bits < σ 3 3) → zu_tq (zu_tc σ (σ 10 (σ 11 bits)) bits (σ 133)) k r63)) from ⟨fun h => absurd (by omega) h, fun _ => ⟨fun o => absurd (pr23.2.1 (by omega)).1 o, fun _ => by have e := pσ40; rw [(pr23.2.1 (by omega)).2] at e; have e0 : σ40 132 3 = (zu_tc σ (σ 10 (σ 11 bits)) bits (σ 133)).1 := congrArg Prod.fst e; have e1 : σ40 133 = (zu_tc σ (σ 10 (σ 11 bits)) bits (σ 133)).2 := congrArg Prod.snd e; exact ⟨fun h => absurd h (by omega), fun _ h => (by rw [← e1]; exact pr63.1 ⟨by omega, by omega⟩), fun _ h => pr63.2 (by omega)⟩⟩⟩), Uσ40⟩
        · show V 48 [some (ZR 0), some (ZI bits), some (ZI k), some (ZR r23)] [] 284 σ40
          refine zr_aload_n (pc := 48) hV dX11_text_48 rfl rfl ?_
          refine zr_getR (pc := 49) hV 2 132 dX11_text_49 fX11_28 rfl rfl (zc_k0 zc_s0) (zc_pos zc_s0 rfl) (zc_g0_2 hσ40 zc_s0) (by decide) ?_
          refine zr_getI (pc := 52) hV 3 dX11_text_52 fX11_222 rfl rfl (zc_k132 zc_s132) (zc_pos zc_s132 rfl) ?_
          have t7 := zc_g132_3 hσ40 zc_s132
          refine zr_goto (pc := 55) hV 66 dX11_text_55 (by decide) ?_
          show V 66 [some (ZR 0), some (ZI bits), some (ZI k), some (ZR r23)] [ZI (σ40 132 3)] 284 σ40
          exact zr_iret (pc := 66) hV dX11_text_66 rfl rfl ⟨_, rfl, (by omega), hσ40, hFσ40, trivial, (show (¬ (0 ≤ bits ∧ bits < zx_p2 (σ 3 2) ∧ -1 ≤ k) → (σ40 132 3) = -1) ∧ ((0 ≤ bits ∧ bits < zx_p2 (σ 3 2) ∧ -1 ≤ k) → (¬ (0 ≤ σ 11 bits ∧ σ 11 bits < σ 3 3) → (σ40 132 3) = -4) ∧ ((0 ≤ σ 11 bits ∧ σ 11 bits < σ 3 3) → zu_tq (zu_tc σ (σ 10 (σ 11 bits)) bits (σ 133)) k (σ40 132 3))) from ⟨fun h => absurd (by omega) h, fun _ => ⟨fun o => absurd (pr23.2.1 (by omega)).1 o, fun _ => by have e := pσ40; rw [(pr23.2.1 (by omega)).2] at e; have e0 : σ40 132 3 = (zu_tc σ (σ 10 (σ 11 bits)) bits (σ 133)).1 := congrArg Prod.fst e; have e1 : σ40 133 = (zu_tc σ (σ 10 (σ 11 bits)) bits (σ 133)).2 := congrArg Prod.snd e; exact ⟨fun _ => e0, fun h => absurd (by omega) h, fun h => absurd (by omega) h⟩⟩⟩), Uσ40⟩
    · show V 16 [some (ZR 0), some (ZI bits), some (ZI k), none] [] 284 σ
      refine zr_iconst (pc := 16) hV (-1) dX11_text_16 rfl ?_
      exact zr_iret (pc := 17) hV dX11_text_17 rfl rfl ⟨_, rfl, ⟨by decide, by decide⟩, hσ, hFσ, trivial, (show (¬ (0 ≤ bits ∧ bits < zx_p2 (σ 3 2) ∧ -1 ≤ k) → ((-1) : Int) = -1) ∧ ((0 ≤ bits ∧ bits < zx_p2 (σ 3 2) ∧ -1 ≤ k) → (¬ (0 ≤ σ 11 bits ∧ σ 11 bits < σ 3 3) → ((-1) : Int) = -4) ∧ ((0 ≤ σ 11 bits ∧ σ 11 bits < σ 3 3) → zu_tq (zu_tc σ (σ 10 (σ 11 bits)) bits (σ 133)) k ((-1) : Int))) from ⟨fun _ => rfl, fun h => absurd h (by omega)⟩), Uσ⟩
