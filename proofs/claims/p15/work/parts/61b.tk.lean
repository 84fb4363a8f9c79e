set_option maxHeartbeats 800000 in
theorem c_X3_isOf_2 {σ : zq_S} (hσ : zc_T σ) (this : Int) (kthis : zc_kd this = 4) (bits : Int) (q0 : zq_in bits) : zq_C zc_w yX3_isOf cX3_isOf 2 (some .boolean) 0 0 284 284 [ZR this, ZI bits] σ (zq_pp σ (fun r => (0 ≤ r ∧ r ≤ 1) ∧ (r = 1 ↔ zq_and bits (σ this 1) = σ this 2))) := by
  refine zq_C_of (by decide) (Nat.le_refl _) (Nat.le_of_ble_eq_true rfl) [some (ZR this), some (ZI bits)] rfl (fun V hV => ?_)
  have pothis := zc_pos kthis rfl
  show V 0 [some (ZR this), some (ZI bits)] [] 284 σ
  refine zr_iload_n (pc := 0) hV dX3_isOf_0 rfl rfl ?_
  refine zr_aload_n (pc := 1) hV dX3_isOf_1 rfl rfl ?_
  refine zr_getI (pc := 2) hV 1 dX3_isOf_2 fX3_31 rfl rfl (zc_k4 kthis) (zc_pos kthis rfl) ?_
  have t1 := zc_g4_1 hσ kthis
  refine zr_iand (pc := 5) hV dX3_isOf_5 ?_
  have t2 := zq_and_in bits (σ this 1)
  refine zr_aload_n (pc := 6) hV dX3_isOf_6 rfl rfl ?_
  refine zr_getI (pc := 7) hV 2 dX3_isOf_7 fX3_34 rfl rfl (zc_k4 kthis) (zc_pos kthis rfl) ?_
  have t3 := zc_g4_2 hσ kthis
  refine zr_icmp_ne (pc := 10) hV 17 dX3_isOf_10 (by decide) (by omega) (by omega) (fun c4 => ?_) (fun c4 => ?_)
  · show V 17 [some (ZR this), some (ZI bits)] [] 284 σ
    refine zr_iconst (pc := 17) hV 0 dX3_isOf_17 rfl ?_
    show V 18 [some (ZR this), some (ZI bits)] [ZI 0] 284 σ
    exact zr_zret (pc := 18) hV dX3_isOf_18 rfl rfl (by omega) ⟨rfl, _, rfl, ⟨by decide, by decide⟩, (by omega)⟩
  · show V 13 [some (ZR this), some (ZI bits)] [] 284 σ
    refine zr_iconst (pc := 13) hV 1 dX3_isOf_13 rfl ?_
    refine zr_goto (pc := 14) hV 18 dX3_isOf_14 (by decide) ?_
    show V 18 [some (ZR this), some (ZI bits)] [ZI 1] 284 σ
    exact zr_zret (pc := 18) hV dX3_isOf_18 rfl rfl (by omega) ⟨rfl, _, rfl, ⟨by decide, by decide⟩, (by omega)⟩
set_option maxHeartbeats 800000 in
theorem c_X3_findForm_2 {σ : zq_S} (hσ : zc_T σ) (this : Int) (kthis : zc_kd this = 4)  : zq_C zc_w yX3_findForm cX3_findForm 2 (none) 2 43 284 284 [ZR this] σ (zq_pv (fun τ => zc_T τ ∧ zc_Fr [(4, 14)] σ τ ∧ zd_Own this σ τ ∧ (True))) := by
  refine zq_C_of (by decide) (Nat.le_refl _) (Nat.le_of_ble_eq_true rfl) [some (ZR this), none] rfl (fun V hV => ?_)
  have pothis := zc_pos kthis rfl
  have hFσ := zc_Fr_rf [(4, 14)] σ
  have hOσ := zd_Own_rf this σ
  show V 0 [some (ZR this), none] [] 284 σ
  refine zr_aload_n (pc := 0) hV dX3_findForm_0 rfl rfl ?_
  refine zr_iconst (pc := 1) hV 0 dX3_findForm_1 rfl ?_
  refine zr_putI (pc := 2) hV 14 dX3_findForm_2 fX3_61 rfl rfl rfl (zc_k4 kthis) (zc_pos kthis rfl) (fun σ2 eσ2 => ?_)
  have hσ2 : zc_T σ2 := zc_u4_14 eσ2 hσ kthis (by omega)
  have hFσ2 := zc_Fw eσ2 kthis rfl hFσ
  have hOσ2 := zd_Ow eσ2 (by omega) hOσ
  refine zr_aload_n (pc := 5) hV dX3_findForm_5 rfl rfl ?_
  refine zr_getI (pc := 6) hV 4 dX3_findForm_6 fX3_43 rfl rfl (zc_k4 kthis) (zc_pos kthis rfl) ?_
  have t1 := zc_g4_4 hσ2 kthis
  have t2 : σ2 this 4 = σ this 4 := by rw [eσ2]; exact zq_up_ne (by omega)
  refine zr_if_ne (pc := 9) hV 60 dX3_findForm_9 (by decide) (by omega) (fun c3 => ?_) (fun c3 => ?_)
  · show V 60 [some (ZR this), none] [] 284 σ2
    exact zr_vret (pc := 60) hV dX3_findForm_60 rfl rfl ⟨rfl, hσ2, hFσ2, hOσ2, trivial⟩
  · show V 12 [some (ZR this), none] [] 284 σ2
    refine zr_aload_n (pc := 12) hV dX3_findForm_12 rfl rfl ?_
    refine zr_getI (pc := 13) hV 6 dX3_findForm_13 fX3_49 rfl rfl (zc_k4 kthis) (zc_pos kthis rfl) ?_
    have t4 := zc_g4_6 hσ2 kthis
    have t5 : σ2 this 6 = σ this 6 := by rw [eσ2]; exact zq_up_ne (by omega)
    refine zr_iconst (pc := 16) hV 1 dX3_findForm_16 rfl ?_
    refine zr_icmp_ne (pc := 17) hV 60 dX3_findForm_17 (by decide) (by omega) ⟨by decide, by decide⟩ (fun c6 => ?_) (fun c6 => ?_)
    · show V 60 [some (ZR this), none] [] 284 σ2
      exact zr_vret (pc := 60) hV dX3_findForm_60 rfl rfl ⟨rfl, hσ2, hFσ2, hOσ2, trivial⟩
    · show V 20 [some (ZR this), none] [] 284 σ2
      refine zr_aload_n (pc := 20) hV dX3_findForm_20 rfl rfl ?_
      refine zr_getR (pc := 21) hV 7 (this + 2) dX3_findForm_21 fX3_15 rfl rfl (zc_k4 kthis) (zc_pos kthis rfl) (zc_g4_7 hσ2 kthis) (zc_pos (zc_p4_2 kthis) rfl).1 ?_
      refine zr_iconst (pc := 24) hV 0 dX3_findForm_24 rfl ?_
      refine zr_iald (pc := 25) hV dX3_findForm_25 (zc_k6 (zc_p4_2 kthis)) (zc_pos (zc_p4_2 kthis) rfl) rfl (by omega) ?_
      have t7 := zc_ga6 hσ2 (zc_p4_2 kthis) 0
      have t8 : σ2 (this + 2) 0 = σ (this + 2) 0 := by rw [eσ2]; exact zq_up_ne (zc_dk (zc_p4_2 kthis) kthis rfl)
      refine zr_if_ne (pc := 26) hV 60 dX3_findForm_26 (by decide) (by omega) (fun c9 => ?_) (fun c9 => ?_)
      · show V 60 [some (ZR this), none] [] 284 σ2
        exact zr_vret (pc := 60) hV dX3_findForm_60 rfl rfl ⟨rfl, hσ2, hFσ2, hOσ2, trivial⟩
      · show V 29 [some (ZR this), none] [] 284 σ2
        refine zr_aload_n (pc := 29) hV dX3_findForm_29 rfl rfl ?_
        refine zr_callVp (pc := 30) hV [] (st := []) (c_X3_fieldLetters (σ := σ2) hσ2 this kthis) dX3_findForm_30 mX3_89 (zc_k4 kthis) (zc_pos kthis rfl) (by decide) (Nat.le_of_ble_eq_true rfl) (Nat.le_refl _) (fun r30 hr30 pr30 => ?_)
        refine zr_istore_n (pc := 33) hV [some (ZR this), some (ZI r30)] dX3_findForm_33 rfl (by decide) rfl rfl ?_
        refine zr_aload_n (pc := 34) hV dX3_findForm_34 rfl rfl ?_
        refine zr_aload_n (pc := 35) hV dX3_findForm_35 rfl rfl ?_
        refine zr_getR (pc := 36) hV 9 (this + 4) dX3_findForm_36 fX3_21 rfl rfl (zc_k4 kthis) (zc_pos kthis rfl) (zc_g4_9 hσ2 kthis) (zc_pos (zc_p4_4 kthis) rfl).1 ?_
        refine zr_iconst (pc := 39) hV 0 dX3_findForm_39 rfl ?_
        refine zr_iald (pc := 40) hV dX3_findForm_40 (zc_k8 (zc_p4_4 kthis)) (zc_pos (zc_p4_4 kthis) rfl) rfl (by omega) ?_
        have t10 := zc_ga8 hσ2 (zc_p4_4 kthis) 0
        have t11 : σ2 (this + 4) 0 = σ (this + 4) 0 := by rw [eσ2]; exact zq_up_ne (zc_dk (zc_p4_4 kthis) kthis rfl)
        refine zr_if_ne (pc := 41) hV 52 dX3_findForm_41 (by decide) (by omega) (fun c12 => ?_) (fun c12 => ?_)
        · show V 52 [some (ZR this), some (ZI r30)] [ZR this] 284 σ2
          refine zr_aload_n (pc := 52) hV dX3_findForm_52 rfl rfl ?_
          refine zr_iload_n (pc := 53) hV dX3_findForm_53 rfl rfl ?_
          refine zr_callVp (pc := 54) hV [ZI r30] (st := [ZR this]) (c_X3_signForm (σ := σ2) hσ2 this kthis r30 (by omega)) dX3_findForm_54 mX3_99 (zc_k4 kthis) (zc_pos kthis rfl) (by decide) (Nat.le_of_ble_eq_true rfl) (Nat.le_refl _) (fun r54 hr54 pr54 => ?_)
          show V 57 [some (ZR this), some (ZI r30)] [ZI r54, ZR this] 284 σ2
          refine zr_putI (pc := 57) hV 14 dX3_findForm_57 fX3_61 rfl rfl rfl (zc_k4 kthis) (zc_pos kthis rfl) (fun σ57 eσ57 => ?_)
          have hσ57 : zc_T σ57 := zc_u4_14 eσ57 hσ2 kthis (by omega)
          have hFσ57 := zc_Fw eσ57 kthis rfl hFσ2
          have hOσ57 := zd_Ow eσ57 (by omega) hOσ2
          show V 60 [some (ZR this), some (ZI r30)] [] 284 σ57
          exact zr_vret (pc := 60) hV dX3_findForm_60 rfl rfl ⟨rfl, hσ57, hFσ57, hOσ57, trivial⟩
        · show V 44 [some (ZR this), some (ZI r30)] [ZR this] 284 σ2
          refine zr_aload_n (pc := 44) hV dX3_findForm_44 rfl rfl ?_
          refine zr_iload_n (pc := 45) hV dX3_findForm_45 rfl rfl ?_
          refine zr_callVp (pc := 46) hV [ZI r30] (st := [ZR this]) (c_X3_plainForm (σ := σ2) hσ2 this kthis r30 (by omega)) dX3_findForm_46 mX3_96 (zc_k4 kthis) (zc_pos kthis rfl) (by decide) (Nat.le_of_ble_eq_true rfl) (Nat.le_refl _) (fun r46 hr46 pr46 => ?_)
          refine zr_goto (pc := 49) hV 57 dX3_findForm_49 (by decide) ?_
          show V 57 [some (ZR this), some (ZI r30)] [ZI r46, ZR this] 284 σ2
          refine zr_putI (pc := 57) hV 14 dX3_findForm_57 fX3_61 rfl rfl rfl (zc_k4 kthis) (zc_pos kthis rfl) (fun σ57 eσ57 => ?_)
          have hσ57 : zc_T σ57 := zc_u4_14 eσ57 hσ2 kthis (by omega)
          have hFσ57 := zc_Fw eσ57 kthis rfl hFσ2
          have hOσ57 := zd_Ow eσ57 (by omega) hOσ2
          show V 60 [some (ZR this), some (ZI r30)] [] 284 σ57
          exact zr_vret (pc := 60) hV dX3_findForm_60 rfl rfl ⟨rfl, hσ57, hFσ57, hOσ57, trivial⟩
set_option maxHeartbeats 800000 in
theorem c_X9_markBits_2 {σ : zq_S} (hσ : zc_T σ) (order : Int) (korder : zc_kd order = 4) (number : Int) (q0 : (-1) ≤ number ∧ number ≤ 19) : zq_C zc_w yX9_markBits cX9_markBits 4 (none) 1 21 284 284 [ZR 3, ZR order, ZI number] σ (zq_pv (fun τ => zc_T τ ∧ zc_Fr [(11, -1)] σ τ ∧ (True) ∧ zq_hid (zt_mark σ τ (zx_p2 (σ 3 2)) (σ order 1) (σ order 2) number))) := by
  refine zq_C_of (by decide) (Nat.le_refl _) (Nat.le_of_ble_eq_true rfl) [some (ZR 3), some (ZR order), some (ZI number), none] rfl (fun V hV => ?_)
  have poorder := zc_pos korder rfl
  have hFσ := zc_Fr_rf [(11, -1)] σ
  have zpp := zx_p2_pos (σ 3 2)
  show V 0 [some (ZR 3), some (ZR order), some (ZI number), none] [] 284 σ
  refine zr_iconst (pc := 0) hV 0 dX9_markBits_0 rfl ?_
  refine zr_istore_n (pc := 1) hV [some (ZR 3), some (ZR order), some (ZI number), some (ZI 0)] dX9_markBits_1 rfl (by decide) rfl rfl ?_
  have L2 : ∀ (fuel : Nat) (x3_2 : Int) (σ_2 : zq_S), (0 ≤ x3_2 ∧ x3_2 ≤ 4096) → (zc_T σ_2) → (zc_Fr [(11, -1)] σ σ_2) → (x3_2 ≤ zx_p2 (σ 3 2)) → (zq_hid (∀ i, σ_2 11 i = if 0 ≤ i ∧ i < x3_2 ∧ zq_and i (σ order 1) = σ order 2 then number else σ 11 i)) → 4096 - x3_2 < (fuel : Int) → V 2 [some (ZR 3), some (ZR order), some (ZI number), some (ZI x3_2)] [] 284 σ_2 := by
    intro fuel
    induction fuel with
    | zero =>
      intro x3_2 σ_2 hx3_2 hσ_2 hFσ_2 hi2_0 hi2_1 hm2
      exfalso; omega
    | succ fuel ih =>
      intro x3_2 σ_2 hx3_2 hσ_2 hFσ_2 hi2_0 hi2_1 hm2
      have ih2 := ih
      show V 2 [some (ZR 3), some (ZR order), some (ZI number), some (ZI x3_2)] [] 284 σ_2
      refine zr_iload_n (pc := 2) hV dX9_markBits_2 rfl rfl ?_
      refine zr_aload_n (pc := 3) hV dX9_markBits_3 rfl rfl ?_
      refine zr_callVp (pc := 4) hV [] (st := [ZI x3_2]) (c_X9_bitsInAll_2 (σ := σ_2) hσ_2) dX9_markBits_4 mX9_48 (zc_k3 zc_s3) (zc_pos zc_s3 rfl) (by decide) (Nat.le_of_ble_eq_true rfl) (Nat.le_refl _) (fun r4 hr4 pr4 => ?_)
      have t1 := zc_g3_2 hσ_2 zc_s3
      have t2 : σ_2 3 2 = σ 3 2 := hFσ_2 _ _ (zc_out_at zc_s3 rfl)
      have f32 : σ_2 3 2 = σ 3 2 := hFσ_2 3 2 (zc_out_at zc_s3 rfl)
      rw [f32] at pr4
      refine zr_icmp_ge (pc := 7) hV 31 dX9_markBits_7 (by decide) (by omega) (by omega) (fun c3 => ?_) (fun c3 => ?_)
      · show V 31 [some (ZR 3), some (ZR order), some (ZI number), some (ZI x3_2)] [] 284 σ_2
        exact zr_vret (pc := 31) hV dX9_markBits_31 rfl rfl ⟨rfl, hσ_2, hFσ_2, trivial, (show zt_mark σ σ_2 (zx_p2 (σ 3 2)) (σ order 1) (σ order 2) number from (fun i => by rw [hi2_1 i, show x3_2 = zx_p2 (σ 3 2) by omega]))⟩
      · show V 10 [some (ZR 3), some (ZR order), some (ZI number), some (ZI x3_2)] [] 284 σ_2
        refine zr_aload_n (pc := 10) hV dX9_markBits_10 rfl rfl ?_
        refine zr_iload_n (pc := 11) hV dX9_markBits_11 rfl rfl ?_
        refine zr_callVp (pc := 12) hV [ZI x3_2] (st := []) (c_X3_isOf_2 (σ := σ_2) hσ_2 order korder x3_2 (by omega)) dX9_markBits_12 mX9_88 (zc_k4 korder) (zc_pos korder rfl) (by decide) (Nat.le_of_ble_eq_true rfl) (Nat.le_refl _) (fun r12 hr12 pr12 => ?_)
        have t4 := zc_g4_1 hσ_2 korder
        have t5 : σ_2 order 1 = σ order 1 := hFσ_2 _ _ (zc_out_at korder rfl)
        have t6 := zc_g4_2 hσ_2 korder
        have t7 : σ_2 order 2 = σ order 2 := hFσ_2 _ _ (zc_out_at korder rfl)
        have fo1 : σ_2 order 1 = σ order 1 := hFσ_2 order 1 (zc_out_at korder rfl)
        have fo2 : σ_2 order 2 = σ order 2 := hFσ_2 order 2 (zc_out_at korder rfl)
        rw [fo1, fo2] at pr12
        refine zr_if_eq (pc := 15) hV 25 dX9_markBits_15 (by decide) (by omega) (fun c8 => ?_) (fun c8 => ?_)
        · show V 25 [some (ZR 3), some (ZR order), some (ZI number), some (ZI x3_2)] [] 284 σ_2
          refine zr_iinc (pc := 25) hV [some (ZR 3), some (ZR order), some (ZI number), some (ZI (x3_2 + 1))] (x3_2 + 1) dX9_markBits_25 rfl rfl (by decide) rfl rfl ?_
          refine zr_goto (pc := 28) hV 2 dX9_markBits_28 (by decide) ?_
          exact ih2 (x3_2 + 1) σ_2 (by omega) hσ_2 hFσ_2 (by omega) (fun i => if hc : i = x3_2 then (by rw [hi2_1 i, hc, if_neg (by omega), if_neg (by omega)]) else (by rw [hi2_1 i]; exact if hd : 0 ≤ i ∧ i < x3_2 ∧ zq_and i (σ order 1) = σ order 2 then (by rw [if_pos hd, if_pos (by omega)]) else (by rw [if_neg hd, if_neg (by omega)]))) (by omega)
        · show V 18 [some (ZR 3), some (ZR order), some (ZI number), some (ZI x3_2)] [] 284 σ_2
          refine zr_aload_n (pc := 18) hV dX9_markBits_18 rfl rfl ?_
          refine zr_getR (pc := 19) hV 7 11 dX9_markBits_19 fX9_22 rfl rfl (zc_k3 zc_s3) (zc_pos zc_s3 rfl) (zc_g3_7 hσ_2 zc_s3) (by decide) ?_
          refine zr_iload_n (pc := 22) hV dX9_markBits_22 rfl rfl ?_
          refine zr_iload_n (pc := 23) hV dX9_markBits_23 rfl rfl ?_
          refine zr_iast (pc := 24) hV dX9_markBits_24 (zc_k11 zc_s11) (zc_pos zc_s11 rfl) rfl (by omega) (fun σ24 eσ24 => ?_)
          have hσ24 : zc_T σ24 := zc_ua11 eσ24 hσ_2 zc_s11 (by omega)
          have hFσ24 := zc_Fa eσ24 zc_s11 rfl hFσ_2
          show V 25 [some (ZR 3), some (ZR order), some (ZI number), some (ZI x3_2)] [] 284 σ24
          refine zr_iinc (pc := 25) hV [some (ZR 3), some (ZR order), some (ZI number), some (ZI (x3_2 + 1))] (x3_2 + 1) dX9_markBits_25 rfl rfl (by decide) rfl rfl ?_
          refine zr_goto (pc := 28) hV 2 dX9_markBits_28 (by decide) ?_
          exact ih2 (x3_2 + 1) σ24 (by omega) hσ24 hFσ24 (by omega) (fun i => if hc : i = x3_2 then (by rw [hc, eσ24, zq_up_same, if_pos (by omega)]) else (by rw [eσ24, zq_up_ne (by omega), hi2_1 i]; exact if hd : 0 ≤ i ∧ i < x3_2 ∧ zq_and i (σ order 1) = σ order 2 then (by rw [if_pos hd, if_pos (by omega)]) else (by rw [if_neg hd, if_neg (by omega)]))) (by omega)
  exact L2 (4096 - (0 : Int) + 1 : Int).toNat 0 σ (by omega) hσ hFσ (by omega) (fun i => by rw [if_neg (by omega)]) (by omega)
set_option maxHeartbeats 800000 in
theorem c_X9_leastSharedBits_2 {σ : zq_S} (hσ : zc_T σ) (sp : Int) (esp : σ 3 5 = sp) (ksp : zc_kd sp = 4)  : zq_C zc_w yX9_leastSharedBits cX9_leastSharedBits 5 (some .int) 1 21 284 284 [ZR 3] σ (zq_pp σ (fun r => (0 ≤ r ∧ r ≤ 4096) ∧ r ≤ zx_p2 (σ 3 2) ∧ zq_hid (zt_min (σ 10) σ sp (σ 3 3) (zx_p2 (σ 3 2)) r))) := by
  refine zq_C_of (by decide) (Nat.le_refl _) (Nat.le_of_ble_eq_true rfl) [some (ZR 3), none, none, none, none] rfl (fun V hV => ?_)
  have posp := zc_pos ksp rfl
  show V 0 [some (ZR 3), none, none, none, none] [] 284 σ
  refine zr_aload_n (pc := 0) hV dX9_leastSharedBits_0 rfl rfl ?_
  refine zr_callVp (pc := 1) hV [] (st := []) (c_X9_bitsInAll_2 (σ := σ) hσ) dX9_leastSharedBits_1 mX9_48 (zc_k3 zc_s3) (zc_pos zc_s3 rfl) (by decide) (Nat.le_of_ble_eq_true rfl) (Nat.le_refl _) (fun r1 hr1 pr1 => ?_)
  have t1 := zc_g3_2 hσ zc_s3
  refine zr_istore_n (pc := 4) hV [some (ZR 3), some (ZI r1), none, none, none] dX9_leastSharedBits_4 rfl (by decide) rfl rfl ?_
  refine zr_iconst (pc := 5) hV 0 dX9_leastSharedBits_5 rfl ?_
  refine zr_istore_n (pc := 6) hV [some (ZR 3), some (ZI r1), some (ZI 0), none, none] dX9_leastSharedBits_6 rfl (by decide) rfl rfl ?_
  have L7 : ∀ (fuel : Nat) (x1_7 : Int) (x2_7 : Int), (0 ≤ x1_7 ∧ x1_7 ≤ 4096) → (0 ≤ x2_7 ∧ x2_7 ≤ 20) → (x1_7 ≤ zx_p2 (σ 3 2)) → (zq_hid (∀ i, 0 ≤ i → i < x2_7 → zt_lu (σ 10) σ sp i = 0 → x1_7 ≤ zt_lo (σ 10) σ sp i)) → (zq_hid (x1_7 = zx_p2 (σ 3 2) ∨ ∃ i, 0 ≤ i ∧ i < x2_7 ∧ zt_lu (σ 10) σ sp i = 0 ∧ x1_7 = zt_lo (σ 10) σ sp i)) → (x2_7 ≤ σ 3 3) → 20 - x2_7 < (fuel : Int) → V 7 [some (ZR 3), some (ZI x1_7), some (ZI x2_7), none, none] [] 284 σ := by
    intro fuel
    induction fuel with
    | zero =>
      intro x1_7 x2_7 hx1_7 hx2_7 hi7_0 hi7_1 hi7_2 hi7_3 hm7
      exfalso; omega
    | succ fuel ih =>
      intro x1_7 x2_7 hx1_7 hx2_7 hi7_0 hi7_1 hi7_2 hi7_3 hm7
      have ih7 := ih
      show V 7 [some (ZR 3), some (ZI x1_7), some (ZI x2_7), none, none] [] 284 σ
      refine zr_iload_n (pc := 7) hV dX9_leastSharedBits_7 rfl rfl ?_
      refine zr_aload_n (pc := 8) hV dX9_leastSharedBits_8 rfl rfl ?_
      refine zr_getI (pc := 9) hV 3 dX9_leastSharedBits_9 fX9_36 rfl rfl (zc_k3 zc_s3) (zc_pos zc_s3 rfl) ?_
      have t2 := zc_g3_3 hσ zc_s3
      refine zr_icmp_ge (pc := 12) hV 77 dX9_leastSharedBits_12 (by decide) (by omega) (by omega) (fun c3 => ?_) (fun c3 => ?_)
      · show V 77 [some (ZR 3), some (ZI x1_7), some (ZI x2_7), none, none] [] 284 σ
        refine zr_iload_n (pc := 77) hV dX9_leastSharedBits_77 rfl rfl ?_
        exact zr_iret (pc := 78) hV dX9_leastSharedBits_78 rfl rfl ⟨rfl, _, rfl, (by omega), ⟨by omega, ⟨by omega, ⟨fun i h0 h1 => hi7_1 i h0 (by omega), Or.imp id (fun ⟨i, h0, h1, h2, h3⟩ => ⟨i, h0, by omega, h2, h3⟩) hi7_2⟩⟩⟩⟩
      · show V 15 [some (ZR 3), some (ZI x1_7), some (ZI x2_7), none, none] [] 284 σ
        refine zr_aload_n (pc := 15) hV dX9_leastSharedBits_15 rfl rfl ?_
        refine zr_getR (pc := 16) hV 6 10 dX9_leastSharedBits_16 fX9_18 rfl rfl (zc_k3 zc_s3) (zc_pos zc_s3 rfl) (zc_g3_6 hσ zc_s3) (by decide) ?_
        refine zr_iload_n (pc := 19) hV dX9_leastSharedBits_19 rfl rfl ?_
        have ga20 : zc_kd (σ 10 x2_7) = 4 := zc_ga10 hσ zc_s10 x2_7 (by omega) (by omega)
        refine zr_aald (pc := 20) hV dX9_leastSharedBits_20 (zc_k10 zc_s10) (Or.inl rfl) (zc_pos zc_s10 rfl) rfl (by omega) (zc_pos ga20 rfl).1 ?_
        obtain ⟨o20, eo20⟩ : ∃ o, σ 10 x2_7 = o := ⟨_, rfl⟩
        rw [eo20] at ga20 ⊢
        have ko20 := ga20
        have po20 := zc_pos ko20 rfl
        show V 21 [some (ZR 3), some (ZI x1_7), some (ZI x2_7), none, none] [ZR o20] 284 σ
        refine zr_astore_n (pc := 21) hV [some (ZR 3), some (ZI x1_7), some (ZI x2_7), some (ZR o20), none] dX9_leastSharedBits_21 rfl (by decide) rfl rfl ?_
        refine zr_aload_n (pc := 22) hV dX9_leastSharedBits_22 rfl rfl ?_
        refine zr_getI (pc := 23) hV 2 dX9_leastSharedBits_23 fX9_69 rfl rfl (zc_k4 ko20) (zc_pos ko20 rfl) ?_
        have t4 := zc_g4_2 hσ ko20
        refine zr_aload_n (pc := 26) hV dX9_leastSharedBits_26 rfl rfl ?_
        refine zr_getR (pc := 27) hV 5 sp dX9_leastSharedBits_27 fX9_12 rfl rfl (zc_k3 zc_s3) (zc_pos zc_s3 rfl) (by omega) (zc_pos ksp rfl).1 ?_
        refine zr_getI (pc := 30) hV 2 dX9_leastSharedBits_30 fX9_69 rfl rfl (zc_k4 ksp) (zc_pos ksp rfl) ?_
        have t5 := zc_g4_2 hσ ksp
        refine zr_ixor (pc := 33) hV dX9_leastSharedBits_33 ?_
        have t6 := zq_xor_b (x := σ o20 2) (y := σ sp 2) 12 4096 (by decide) (by decide) (by omega) (by omega)
        refine zr_aload_n (pc := 34) hV dX9_leastSharedBits_34 rfl rfl ?_
        refine zr_getI (pc := 35) hV 1 dX9_leastSharedBits_35 fX9_72 rfl rfl (zc_k4 ko20) (zc_pos ko20 rfl) ?_
        have t7 := zc_g4_1 hσ ko20
        refine zr_iand (pc := 38) hV dX9_leastSharedBits_38 ?_
        have t8 := zq_and_nnL (x := zq_xor (σ o20 2) (σ sp 2)) (y := σ o20 1) (by omega)
        refine zr_aload_n (pc := 39) hV dX9_leastSharedBits_39 rfl rfl ?_
        refine zr_getR (pc := 40) hV 5 sp dX9_leastSharedBits_40 fX9_12 rfl rfl (zc_k3 zc_s3) (zc_pos zc_s3 rfl) (by omega) (zc_pos ksp rfl).1 ?_
        refine zr_getI (pc := 43) hV 1 dX9_leastSharedBits_43 fX9_72 rfl rfl (zc_k4 ksp) (zc_pos ksp rfl) ?_
        have t9 := zc_g4_1 hσ ksp
        refine zr_iand (pc := 46) hV dX9_leastSharedBits_46 ?_
        have t10 := zq_and_nnL (x := zq_and (zq_xor (σ o20 2) (σ sp 2)) (σ o20 1)) (y := σ sp 1) (by omega)
        refine zr_istore (pc := 47) hV [some (ZR 3), some (ZI x1_7), some (ZI x2_7), some (ZR o20), some (ZI (zq_and (zq_and (zq_xor (σ o20 2) (σ sp 2)) (σ o20 1)) (σ sp 1)))] dX9_leastSharedBits_47 (by decide) rfl rfl ?_
        have zlu : zt_lu (σ 10) σ sp x2_7 = zq_and (zq_and (zq_xor (σ o20 2) (σ sp 2)) (σ o20 1)) (σ sp 1) := by unfold zt_lu; rw [eo20]
        have zlo : zt_lo (σ 10) σ sp x2_7 = zq_or (σ o20 2) (σ sp 2) := by unfold zt_lo; rw [eo20]
        refine zr_iload (pc := 49) hV dX9_leastSharedBits_49 rfl ?_
        refine zr_if_ne (pc := 51) hV 71 dX9_leastSharedBits_51 (by decide) (by omega) (fun c11 => ?_) (fun c11 => ?_)
        · show V 71 [some (ZR 3), some (ZI x1_7), some (ZI x2_7), some (ZR o20), some (ZI (zq_and (zq_and (zq_xor (σ o20 2) (σ sp 2)) (σ o20 1)) (σ sp 1)))] [] 284 σ
          refine zr_iinc (pc := 71) hV [some (ZR 3), some (ZI x1_7), some (ZI (x2_7 + 1)), some (ZR o20), some (ZI (zq_and (zq_and (zq_xor (σ o20 2) (σ sp 2)) (σ o20 1)) (σ sp 1)))] (x2_7 + 1) dX9_leastSharedBits_71 rfl rfl (by decide) rfl rfl ?_
          refine zr_goto (pc := 74) hV 7 dX9_leastSharedBits_74 (by decide) ?_
          have t12 := zc_g3_2 hσ zc_s3
          have t13 := zc_g3_2 hσ zc_s3
          have t14 := zc_g3_3 hσ zc_s3
          refine zr_sub (pc := 7) hV [some (ZR 3), some (ZI x1_7), some (ZI (x2_7 + 1)), none, none] (⟨rfl, rfl, rfl, trivial⟩) ?_
          exact ih7 x1_7 (x2_7 + 1) (by omega) (by omega) (by omega) (fun i h0 h1 hz => if hc : i = x2_7 then (by rw [hc] at hz ⊢; omega) else (by have := hi7_1 i h0 (by omega) hz; omega)) (Or.imp id (fun ⟨i, h0, h1, h2, h3⟩ => ⟨i, h0, by omega, h2, h3⟩) hi7_2) (by omega) (by omega)
        · show V 54 [some (ZR 3), some (ZI x1_7), some (ZI x2_7), some (ZR o20), some (ZI (zq_and (zq_and (zq_xor (σ o20 2) (σ sp 2)) (σ o20 1)) (σ sp 1)))] [] 284 σ
          refine zr_iload_n (pc := 54) hV dX9_leastSharedBits_54 rfl rfl ?_
          refine zr_aload_n (pc := 55) hV dX9_leastSharedBits_55 rfl rfl ?_
          refine zr_getI (pc := 56) hV 2 dX9_leastSharedBits_56 fX9_69 rfl rfl (zc_k4 ko20) (zc_pos ko20 rfl) ?_
          have t15 := zc_g4_2 hσ ko20
          refine zr_aload_n (pc := 59) hV dX9_leastSharedBits_59 rfl rfl ?_
          refine zr_getR (pc := 60) hV 5 sp dX9_leastSharedBits_60 fX9_12 rfl rfl (zc_k3 zc_s3) (zc_pos zc_s3 rfl) (by omega) (zc_pos ksp rfl).1 ?_
          refine zr_getI (pc := 63) hV 2 dX9_leastSharedBits_63 fX9_69 rfl rfl (zc_k4 ksp) (zc_pos ksp rfl) ?_
          have t16 := zc_g4_2 hσ ksp
          refine zr_ior (pc := 66) hV dX9_leastSharedBits_66 ?_
          have t17 := zq_or_b (x := σ o20 2) (y := σ sp 2) 12 4096 (by decide) (by decide) (by omega) (by omega)
          refine zr_min (pc := 67) hV (st := []) dX9_leastSharedBits_67 lX9_75 (by omega) (by omega) (Nat.le_of_ble_eq_true rfl) rfl rfl (fun r67 pr67 qr67 => ?_)
          refine zr_istore_n (pc := 70) hV [some (ZR 3), some (ZI r67), some (ZI x2_7), some (ZR o20), some (ZI (zq_and (zq_and (zq_xor (σ o20 2) (σ sp 2)) (σ o20 1)) (σ sp 1)))] dX9_leastSharedBits_70 rfl (by decide) rfl rfl ?_
          show V 71 [some (ZR 3), some (ZI r67), some (ZI x2_7), some (ZR o20), some (ZI (zq_and (zq_and (zq_xor (σ o20 2) (σ sp 2)) (σ o20 1)) (σ sp 1)))] [] 284 σ
          refine zr_iinc (pc := 71) hV [some (ZR 3), some (ZI r67), some (ZI (x2_7 + 1)), some (ZR o20), some (ZI (zq_and (zq_and (zq_xor (σ o20 2) (σ sp 2)) (σ o20 1)) (σ sp 1)))] (x2_7 + 1) dX9_leastSharedBits_71 rfl rfl (by decide) rfl rfl ?_
          refine zr_goto (pc := 74) hV 7 dX9_leastSharedBits_74 (by decide) ?_
          have t18 := zc_g3_2 hσ zc_s3
          have t19 := zc_g3_2 hσ zc_s3
          have t20 := zc_g3_3 hσ zc_s3
          refine zr_sub (pc := 7) hV [some (ZR 3), some (ZI r67), some (ZI (x2_7 + 1)), none, none] (⟨rfl, rfl, rfl, trivial⟩) ?_
          exact ih7 r67 (x2_7 + 1) (by omega) (by omega) (by omega) (fun i h0 h1 hz => if hc : i = x2_7 then (by rw [hc] at hz ⊢; omega) else (by have := hi7_1 i h0 (by omega) hz; omega)) (if hm : r67 = x1_7 then (Or.imp (fun q => hm.trans q) (fun ⟨i, h0, h1, h2, h3⟩ => ⟨i, h0, by omega, h2, hm.trans h3⟩) hi7_2) else Or.inr ⟨x2_7, by omega, by omega, by omega, by omega⟩) (by omega) (by omega)
  have t21 := zc_g3_2 hσ zc_s3
  have t22 := zc_g3_2 hσ zc_s3
  have t23 := zc_g3_3 hσ zc_s3
  exact L7 (20 - (0 : Int) + 1 : Int).toNat r1 0 (by omega) (by omega) (by omega) (fun i h0 h1 => absurd h1 (by omega)) (Or.inl (by omega)) (by omega) (by omega)
set_option maxHeartbeats 800000 in
theorem c_X9_keepSpare_2 {σ : zq_S} (hσ : zc_T σ) (sp : Int) (esp : σ 3 5 = sp) (ksp : zc_kd sp = 4)  : zq_C zc_w yX9_keepSpare cX9_keepSpare 2 (some .int) 3 64 284 284 [ZR 3] σ (zq_pi (fun r τ => zc_T τ ∧ zc_Fr [(3, 3), (3, 5), (4, 14), (10, -1), (11, -1)] σ τ ∧ zd_Own sp σ τ ∧ (((-3) ≤ r ∧ r ≤ 19) ∧ -3 ≤ r ∧ r ≤ 19) ∧ zq_hid (zt_keep σ τ σ sp r))) := by
  refine zq_C_of (by decide) (Nat.le_refl _) (Nat.le_of_ble_eq_true rfl) [some (ZR 3), none] rfl (fun V hV => ?_)
  have hFσ := zc_Fr_rf [(3, 3), (3, 5), (4, 14), (10, -1), (11, -1)] σ
  have hOσ := zd_Own_rf sp σ
  have posp := zc_pos ksp rfl
  show V 0 [some (ZR 3), none] [] 284 σ
  refine zr_aload_n (pc := 0) hV dX9_keepSpare_0 rfl rfl ?_
  refine zr_getI (pc := 1) hV 3 dX9_keepSpare_1 fX9_36 rfl rfl (zc_k3 zc_s3) (zc_pos zc_s3 rfl) ?_
  have t1 := zc_g3_3 hσ zc_s3
  refine zr_bipush (pc := 4) hV 20 dX9_keepSpare_4 (by decide) ?_
  refine zr_icmp_lt (pc := 6) hV 12 dX9_keepSpare_6 (by decide) (by omega) ⟨by decide, by decide⟩ (fun c2 => ?_) (fun c2 => ?_)
  · show V 12 [some (ZR 3), none] [] 284 σ
    refine zr_aload_n (pc := 12) hV dX9_keepSpare_12 rfl rfl ?_
    refine zr_getR (pc := 13) hV 5 sp dX9_keepSpare_13 fX9_12 rfl rfl (zc_k3 zc_s3) (zc_pos zc_s3 rfl) (by omega) (zc_pos ksp rfl).1 ?_
    refine zr_astore_n (pc := 16) hV [some (ZR 3), some (ZR sp)] dX9_keepSpare_16 rfl (by decide) rfl rfl ?_
    refine zr_aload_n (pc := 17) hV dX9_keepSpare_17 rfl rfl ?_
    refine zr_aload_n (pc := 18) hV dX9_keepSpare_18 rfl rfl ?_
    refine zr_getR (pc := 19) hV 6 10 dX9_keepSpare_19 fX9_18 rfl rfl (zc_k3 zc_s3) (zc_pos zc_s3 rfl) (zc_g3_6 hσ zc_s3) (by decide) ?_
    refine zr_aload_n (pc := 22) hV dX9_keepSpare_22 rfl rfl ?_
    refine zr_getI (pc := 23) hV 3 dX9_keepSpare_23 fX9_36 rfl rfl (zc_k3 zc_s3) (zc_pos zc_s3 rfl) ?_
    have t3 := zc_g3_3 hσ zc_s3
    have ga26 : zc_kd (σ 10 (σ 3 3)) = 4 := zc_ga10 hσ zc_s10 (σ 3 3) (by omega) (by omega)
    refine zr_aald (pc := 26) hV dX9_keepSpare_26 (zc_k10 zc_s10) (Or.inl rfl) (zc_pos zc_s10 rfl) rfl (by omega) (zc_pos ga26 rfl).1 ?_
    obtain ⟨o26, eo26⟩ : ∃ o, σ 10 (σ 3 3) = o := ⟨_, rfl⟩
    rw [eo26] at ga26 ⊢
    have ko26 := ga26
    have po26 := zc_pos ko26 rfl
    show V 27 [some (ZR 3), some (ZR sp)] [ZR o26, ZR 3] 284 σ
    refine zr_putR (pc := 27) hV 5 dX9_keepSpare_27 fX9_12 rfl (Or.inl rfl) rfl (zc_pos ko26 rfl).1 (zc_k3 zc_s3) (zc_pos zc_s3 rfl) (fun σ27 eσ27 => ?_)
    have hσ27 : zc_T σ27 := zc_u3_5 eσ27 hσ zc_s3 ko26
    have hFσ27 := zc_Fw eσ27 zc_s3 rfl hFσ
    have hOσ27 := zd_Ox eσ27 zc_s3 rfl hOσ
    refine zr_aload_n (pc := 30) hV dX9_keepSpare_30 rfl rfl ?_
    refine zr_getR (pc := 31) hV 6 10 dX9_keepSpare_31 fX9_18 rfl rfl (zc_k3 zc_s3) (zc_pos zc_s3 rfl) (zc_g3_6 hσ27 zc_s3) (by decide) ?_
    refine zr_aload_n (pc := 34) hV dX9_keepSpare_34 rfl rfl ?_
    refine zr_getI (pc := 35) hV 3 dX9_keepSpare_35 fX9_36 rfl rfl (zc_k3 zc_s3) (zc_pos zc_s3 rfl) ?_
    have t4 := zc_g3_3 hσ27 zc_s3
    have t5 : σ27 3 3 = σ 3 3 := by rw [eσ27]; exact zq_up_ne (by omega)
    refine zr_aload_n (pc := 38) hV dX9_keepSpare_38 rfl rfl ?_
    refine zr_aast (pc := 39) hV dX9_keepSpare_39 (zc_k10 zc_s10) (zc_k4 ksp) (zc_pos zc_s10 rfl) (zc_pos ksp rfl) rfl (by omega) (fun σ39 eσ39 => ?_)
    have hσ39 : zc_T σ39 := zc_ua10 eσ39 hσ27 zc_s10 (fun _ _ => ksp)
    have hFσ39 := zc_Fa eσ39 zc_s10 rfl hFσ27
    have hOσ39 := zd_Ox eσ39 zc_s10 rfl hOσ27
    refine zr_aload_n (pc := 40) hV dX9_keepSpare_40 rfl rfl ?_
    refine zr_callVv (pc := 41) hV [] (st := []) (c_X3_findForm_2 (σ := σ39) hσ39 sp ksp) dX9_keepSpare_41 mX9_81 (zc_k4 ksp) (zc_pos ksp rfl) (by decide) (Nat.le_of_ble_eq_true rfl) (Nat.le_refl _) (fun σ41 pσ41 => ?_)
    obtain ⟨hσ41, hfσ41, hoσ41, pσ41⟩ := pσ41
    have hFσ41 := zc_Fc hfσ41 rfl hFσ39
    have hOσ41 := zd_Oo hoσ41 hOσ39
    refine zr_aload_n (pc := 44) hV dX9_keepSpare_44 rfl rfl ?_
    refine zr_aload_n (pc := 45) hV dX9_keepSpare_45 rfl rfl ?_
    refine zr_aload_n (pc := 46) hV dX9_keepSpare_46 rfl rfl ?_
    refine zr_getI (pc := 47) hV 3 dX9_keepSpare_47 fX9_36 rfl rfl (zc_k3 zc_s3) (zc_pos zc_s3 rfl) ?_
    have t6 := zc_g3_3 hσ41 zc_s3
    have t7 : σ41 3 3 = σ39 3 3 := hfσ41 _ _ (zc_out_at zc_s3 rfl)
    have t8 : σ39 3 3 = σ27 3 3 := by rw [eσ39]; exact zq_up_ne (zc_dk zc_s3 zc_s10 rfl)
    have t9 : σ27 3 3 = σ 3 3 := by rw [eσ27]; exact zq_up_ne (by omega)
    have t10 := zc_g3_3 hσ41 zc_s3
    have t11 : σ41 3 3 = σ39 3 3 := hfσ41 _ _ (zc_out_at zc_s3 rfl)
    have t12 : σ39 3 3 = σ27 3 3 := by rw [eσ39]; exact zq_up_ne (zc_dk zc_s3 zc_s10 rfl)
    have t13 : σ27 3 3 = σ 3 3 := by rw [eσ27]; exact zq_up_ne (by omega)
    refine zr_callVv (pc := 50) hV [ZR sp, ZI (σ41 3 3)] (st := []) (c_X9_markBits_2 (σ := σ41) hσ41 sp ksp (σ41 3 3) (by omega)) dX9_keepSpare_50 mX9_84 (zc_k3 zc_s3) (zc_pos zc_s3 rfl) (by decide) (Nat.le_of_ble_eq_true rfl) (Nat.le_refl _) (fun σ50 pσ50 => ?_)
    obtain ⟨hσ50, hfσ50, pσ50, wσ50⟩ := pσ50
    have hFσ50 := zc_Fc hfσ50 rfl hFσ41
    have hOσ50 := zd_Oc hfσ50 rfl hOσ41
    have t14 := zc_g3_2 hσ41 zc_s3
    have t15 : σ41 3 2 = σ39 3 2 := hfσ41 _ _ (zc_out_at zc_s3 rfl)
    have t16 : σ39 3 2 = σ27 3 2 := by rw [eσ39]; exact zq_up_ne (zc_dk zc_s3 zc_s10 rfl)
    have t17 : σ27 3 2 = σ 3 2 := by rw [eσ27]; exact zq_up_ne (by omega)
    have t18 := zc_g3_3 hσ41 zc_s3
    have t19 : σ41 3 3 = σ39 3 3 := hfσ41 _ _ (zc_out_at zc_s3 rfl)
    have t20 : σ39 3 3 = σ27 3 3 := by rw [eσ39]; exact zq_up_ne (zc_dk zc_s3 zc_s10 rfl)
    have t21 : σ27 3 3 = σ 3 3 := by rw [eσ27]; exact zq_up_ne (by omega)
    have t22 := zc_g4_1 hσ41 ksp
    have t23 : σ41 sp 1 = σ39 sp 1 := hfσ41 _ _ (zc_out_at ksp rfl)
    have t24 : σ39 sp 1 = σ27 sp 1 := by rw [eσ39]; exact zq_up_ne (zc_dk ksp zc_s10 rfl)
    have t25 : σ27 sp 1 = σ sp 1 := by rw [eσ27]; exact zq_up_ne (zc_dk ksp zc_s3 rfl)
    have t26 := zc_g4_2 hσ41 ksp
    have t27 : σ41 sp 2 = σ39 sp 2 := hfσ41 _ _ (zc_out_at ksp rfl)
    have t28 : σ39 sp 2 = σ27 sp 2 := by rw [eσ39]; exact zq_up_ne (zc_dk ksp zc_s10 rfl)
    have t29 : σ27 sp 2 = σ sp 2 := by rw [eσ27]; exact zq_up_ne (zc_dk ksp zc_s3 rfl)
    have f32 : σ41 3 2 = σ 3 2 := hFσ41 3 2 (zc_out_at zc_s3 rfl)
    have fs1 : σ41 sp 1 = σ sp 1 := hFσ41 sp 1 (zc_out_at ksp rfl)
    have fs2 : σ41 sp 2 = σ sp 2 := hFσ41 sp 2 (zc_out_at ksp rfl)
    have f33 : σ41 3 3 = σ 3 3 := by omega
    rw [f32, fs1, fs2, f33] at wσ50
    refine zr_aload_n (pc := 53) hV dX9_keepSpare_53 rfl rfl ?_
    refine zr_dup (pc := 54) hV dX9_keepSpare_54 (fun _ => rfl) ?_
    refine zr_getI (pc := 55) hV 3 dX9_keepSpare_55 fX9_36 rfl rfl (zc_k3 zc_s3) (zc_pos zc_s3 rfl) ?_
    have t30 := zc_g3_3 hσ50 zc_s3
    have t31 : σ50 3 3 = σ41 3 3 := hfσ50 _ _ (zc_out_at zc_s3 rfl)
    have t32 : σ41 3 3 = σ39 3 3 := hfσ41 _ _ (zc_out_at zc_s3 rfl)
    have t33 : σ39 3 3 = σ27 3 3 := by rw [eσ39]; exact zq_up_ne (zc_dk zc_s3 zc_s10 rfl)
    have t34 : σ27 3 3 = σ 3 3 := by rw [eσ27]; exact zq_up_ne (by omega)
    refine zr_iconst (pc := 58) hV 1 dX9_keepSpare_58 rfl ?_
    refine zr_iadd (pc := 59) hV dX9_keepSpare_59 ?_
    refine zr_putI (pc := 60) hV 3 dX9_keepSpare_60 fX9_36 rfl rfl rfl (zc_k3 zc_s3) (zc_pos zc_s3 rfl) (fun σ60 eσ60 => ?_)
    have hσ60 : zc_T σ60 := zc_u3_3 eσ60 hσ50 zc_s3 (by omega)
    have hFσ60 := zc_Fw eσ60 zc_s3 rfl hFσ50
    have hOσ60 := zd_Ox eσ60 zc_s3 rfl hOσ50
    refine zr_aload_n (pc := 63) hV dX9_keepSpare_63 rfl rfl ?_
    refine zr_getI (pc := 64) hV 3 dX9_keepSpare_64 fX9_36 rfl rfl (zc_k3 zc_s3) (zc_pos zc_s3 rfl) ?_
    have t35 := zc_g3_3 hσ60 zc_s3
    have t36 : σ60 3 3 = (σ50 3 3) + 1 := by rw [eσ60]; exact zq_up_same _ _ _ _
    refine zr_iconst (pc := 67) hV 1 dX9_keepSpare_67 rfl ?_
    refine zr_isub (pc := 68) hV dX9_keepSpare_68 ?_
    exact zr_iret (pc := 69) hV dX9_keepSpare_69 rfl rfl ⟨_, rfl, (by omega), hσ60, hFσ60, hOσ60, (by omega), (show zt_keep σ σ60 σ sp ((σ60 3 3) - 1) from (Or.inr ⟨by omega, by omega, by omega, (by rw [eσ60, zq_up_ne (by omega), hfσ50 3 _ (zc_out_at zc_s3 rfl), hfσ41 3 _ (zc_out_at zc_s3 rfl), eσ39, zq_up_ne (by omega), eσ27, zq_up_same]; exact eo26.symm), (fun i => if h : i = σ 3 3 then (by rw [if_pos h, h, eσ60, zq_up_ne (by omega), hfσ50 10 _ (zc_out_ar zc_s10 rfl), hfσ41 10 _ (zc_out_ar zc_s10 rfl), show σ 3 3 = σ27 3 3 by omega, eσ39, zq_up_same]) else (by rw [if_neg h, eσ60, zq_up_ne (by omega), hfσ50 10 _ (zc_out_ar zc_s10 rfl), hfσ41 10 _ (zc_out_ar zc_s10 rfl), eσ39, zq_up_ne (by omega), eσ27, zq_up_ne (by omega)])), (fun i => by rw [eσ60, zq_up_ne (by omega)]; have q := wσ50 i; rw [hfσ41 11 _ (zc_out_ar zc_s11 rfl), eσ39, zq_up_ne (by omega), eσ27, zq_up_ne (by omega)] at q; exact q)⟩))⟩
  · show V 9 [some (ZR 3), none] [] 284 σ
    refine zr_bipush (pc := 9) hV (-3) dX9_keepSpare_9 (by decide) ?_
    exact zr_iret (pc := 11) hV dX9_keepSpare_11 rfl rfl ⟨_, rfl, ⟨by decide, by decide⟩, hσ, hFσ, hOσ, (by omega), (show zt_keep σ σ σ sp ((-3) : Int) from (Or.inl ⟨by omega, rfl, rfl, rfl, fun _ => rfl, fun _ => rfl⟩))⟩
set_option maxHeartbeats 800000 in
theorem c_X9_acceptSpare_2 {σ : zq_S} (hσ : zc_T σ) (sp : Int) (esp : σ 3 5 = sp) (ksp : zc_kd sp = 4)  : zq_C zc_w yX9_acceptSpare cX9_acceptSpare 2 (some .int) 4 85 284 284 [ZR 3] σ (zq_pi (fun r τ => zc_T τ ∧ zc_Fr [(3, 3), (3, 4), (3, 5), (4, 14), (10, -1), (11, -1)] σ τ ∧ zd_Own sp σ τ ∧ (True) ∧ zq_hid (zt_acc σ τ σ sp r))) := by
  refine zq_C_of (by decide) (Nat.le_refl _) (Nat.le_of_ble_eq_true rfl) [some (ZR 3), none] rfl (fun V hV => ?_)
  have hFσ := zc_Fr_rf [(3, 3), (3, 4), (3, 5), (4, 14), (10, -1), (11, -1)] σ
  have hOσ := zd_Own_rf sp σ
  have posp := zc_pos ksp rfl
  show V 0 [some (ZR 3), none] [] 284 σ
  refine zr_aload_n (pc := 0) hV dX9_acceptSpare_0 rfl rfl ?_
  refine zr_callVp (pc := 1) hV [] (st := []) (c_X9_leastSharedBits_2 (σ := σ) hσ sp (by omega) ksp) dX9_acceptSpare_1 mX9_63 (zc_k3 zc_s3) (zc_pos zc_s3 rfl) (by decide) (Nat.le_of_ble_eq_true rfl) (Nat.le_refl _) (fun r1 hr1 pr1 => ?_)
  have t1 := zc_g3_2 hσ zc_s3
  have t2 := zc_g3_3 hσ zc_s3
  refine zr_istore_n (pc := 4) hV [some (ZR 3), some (ZI r1)] dX9_acceptSpare_4 rfl (by decide) rfl rfl ?_
  refine zr_iload_n (pc := 5) hV dX9_acceptSpare_5 rfl rfl ?_
  refine zr_aload_n (pc := 6) hV dX9_acceptSpare_6 rfl rfl ?_
  refine zr_callVp (pc := 7) hV [] (st := [ZI r1]) (c_X9_bitsInAll_2 (σ := σ) hσ) dX9_acceptSpare_7 mX9_48 (zc_k3 zc_s3) (zc_pos zc_s3 rfl) (by decide) (Nat.le_of_ble_eq_true rfl) (Nat.le_refl _) (fun r7 hr7 pr7 => ?_)
  have t3 := zc_g3_2 hσ zc_s3
  refine zr_icmp_ge (pc := 10) hV 31 dX9_acceptSpare_10 (by decide) (by omega) (by omega) (fun c4 => ?_) (fun c4 => ?_)
  · show V 31 [some (ZR 3), some (ZI r1)] [] 284 σ
    refine zr_aload_n (pc := 31) hV dX9_acceptSpare_31 rfl rfl ?_
    refine zr_callVi (pc := 32) hV [] (st := []) (c_X9_keepSpare_2 (σ := σ) hσ sp (by omega) ksp) dX9_acceptSpare_32 mX9_66 (zc_k3 zc_s3) (zc_pos zc_s3 rfl) (by decide) (Nat.le_of_ble_eq_true rfl) (Nat.le_refl _) (fun r32 σ32 hr32 pσ32 => ?_)
    obtain ⟨hσ32, hfσ32, hoσ32, pσ32, wσ32⟩ := pσ32
    have hFσ32 := zc_Fc hfσ32 rfl hFσ
    have hOσ32 := zd_Oo hoσ32 hOσ
    have hFx : σ32 3 4 = σ 3 4 := hfσ32 3 4 (zc_out_at zc_s3 rfl)
    exact zr_iret (pc := 35) hV dX9_acceptSpare_35 rfl rfl ⟨_, rfl, (by omega), hσ32, hFσ32, hOσ32, trivial, (show zt_acc σ σ32 σ sp r32 from ⟨r1, by omega, by omega, pr1.2.2, fun h => absurd h (by omega), fun _ => ⟨hFx, wσ32⟩⟩)⟩
  · show V 13 [some (ZR 3), some (ZI r1)] [] 284 σ
    refine zr_aload_n (pc := 13) hV dX9_acceptSpare_13 rfl rfl ?_
    refine zr_iload_n (pc := 14) hV dX9_acceptSpare_14 rfl rfl ?_
    refine zr_bipush (pc := 15) hV 32 dX9_acceptSpare_15 (by decide) ?_
    refine zr_imul (pc := 17) hV dX9_acceptSpare_17 ?_
    refine zr_aload_n (pc := 18) hV dX9_acceptSpare_18 rfl rfl ?_
    refine zr_getR (pc := 19) hV 7 11 dX9_acceptSpare_19 fX9_22 rfl rfl (zc_k3 zc_s3) (zc_pos zc_s3 rfl) (zc_g3_7 hσ zc_s3) (by decide) ?_
    refine zr_iload_n (pc := 22) hV dX9_acceptSpare_22 rfl rfl ?_
    refine zr_iald (pc := 23) hV dX9_acceptSpare_23 (zc_k11 zc_s11) (zc_pos zc_s11 rfl) rfl (by omega) ?_
    have t5 := zc_ga11 hσ zc_s11 r1
    refine zr_iadd (pc := 24) hV dX9_acceptSpare_24 ?_
    refine zr_putI (pc := 25) hV 4 dX9_acceptSpare_25 fX9_39 rfl rfl rfl (zc_k3 zc_s3) (zc_pos zc_s3 rfl) (fun σ25 eσ25 => ?_)
    have hσ25 : zc_T σ25 := zc_u3_4 eσ25 hσ zc_s3 (by omega)
    have hFσ25 := zc_Fw eσ25 zc_s3 rfl hFσ
    have hOσ25 := zd_Ox eσ25 zc_s3 rfl hOσ
    refine zr_bipush (pc := 28) hV (-2) dX9_acceptSpare_28 (by decide) ?_
    exact zr_iret (pc := 30) hV dX9_acceptSpare_30 rfl rfl ⟨_, rfl, ⟨by decide, by decide⟩, hσ25, hFσ25, hOσ25, trivial, (show zt_acc σ σ25 σ sp ((-2) : Int) from ⟨r1, by omega, by omega, pr1.2.2, fun _ => ⟨by omega, by rw [eσ25, zq_up_same], by rw [eσ25, zq_up_ne (by omega)], by rw [eσ25, zq_up_ne (by omega)], fun i => by rw [eσ25, zq_up_ne (by omega)], fun i => by rw [eσ25, zq_up_ne (by omega)]⟩, fun h => absurd (by omega) h⟩)⟩
set_option maxHeartbeats 800000 in
theorem c_X9_removeLatest_2 {σ : zq_S} (hσ : zc_T σ)   : zq_C zc_w yX9_removeLatest cX9_removeLatest 1 (some .int) 2 44 284 284 [ZR 3] σ (zq_pi (fun r τ => zc_T τ ∧ zc_Fr [(3, 3), (11, -1)] σ τ ∧ ((σ 3 3 = 0 → r = -2 ∧ τ 3 3 = 0) ∧ (σ 3 3 ≠ 0 → r = σ 3 3 - 1 ∧ τ 3 3 = σ 3 3 - 1)) ∧ zq_hid ((σ 3 3 = 0 → ∀ i, τ 11 i = σ 11 i) ∧ (σ 3 3 ≠ 0 → zt_mark σ τ (zx_p2 (σ 3 2)) (σ (σ 10 (σ 3 3 - 1)) 1) (σ (σ 10 (σ 3 3 - 1)) 2) (-1))))) := by
  refine zq_C_of (by decide) (Nat.le_refl _) (Nat.le_of_ble_eq_true rfl) [some (ZR 3)] rfl (fun V hV => ?_)
  have hFσ := zc_Fr_rf [(3, 3), (11, -1)] σ
  show V 0 [some (ZR 3)] [] 284 σ
  refine zr_aload_n (pc := 0) hV dX9_removeLatest_0 rfl rfl ?_
  refine zr_getI (pc := 1) hV 3 dX9_removeLatest_1 fX9_36 rfl rfl (zc_k3 zc_s3) (zc_pos zc_s3 rfl) ?_
  have t1 := zc_g3_3 hσ zc_s3
  refine zr_if_ne (pc := 4) hV 10 dX9_removeLatest_4 (by decide) (by omega) (fun c2 => ?_) (fun c2 => ?_)
  · show V 10 [some (ZR 3)] [] 284 σ
    refine zr_aload_n (pc := 10) hV dX9_removeLatest_10 rfl rfl ?_
    refine zr_dup (pc := 11) hV dX9_removeLatest_11 (fun _ => rfl) ?_
    refine zr_getI (pc := 12) hV 3 dX9_removeLatest_12 fX9_36 rfl rfl (zc_k3 zc_s3) (zc_pos zc_s3 rfl) ?_
    have t3 := zc_g3_3 hσ zc_s3
    refine zr_iconst (pc := 15) hV 1 dX9_removeLatest_15 rfl ?_
    refine zr_isub (pc := 16) hV dX9_removeLatest_16 ?_
    refine zr_putI (pc := 17) hV 3 dX9_removeLatest_17 fX9_36 rfl rfl rfl (zc_k3 zc_s3) (zc_pos zc_s3 rfl) (fun σ17 eσ17 => ?_)
    have hσ17 : zc_T σ17 := zc_u3_3 eσ17 hσ zc_s3 (by omega)
    have hFσ17 := zc_Fw eσ17 zc_s3 rfl hFσ
    refine zr_aload_n (pc := 20) hV dX9_removeLatest_20 rfl rfl ?_
    refine zr_aload_n (pc := 21) hV dX9_removeLatest_21 rfl rfl ?_
    refine zr_getR (pc := 22) hV 6 10 dX9_removeLatest_22 fX9_18 rfl rfl (zc_k3 zc_s3) (zc_pos zc_s3 rfl) (zc_g3_6 hσ17 zc_s3) (by decide) ?_
    refine zr_aload_n (pc := 25) hV dX9_removeLatest_25 rfl rfl ?_
    refine zr_getI (pc := 26) hV 3 dX9_removeLatest_26 fX9_36 rfl rfl (zc_k3 zc_s3) (zc_pos zc_s3 rfl) ?_
    have t4 := zc_g3_3 hσ17 zc_s3
    have t5 : σ17 3 3 = (σ 3 3) - 1 := by rw [eσ17]; exact zq_up_same _ _ _ _
    have ga29 : zc_kd (σ17 10 (σ17 3 3)) = 4 := zc_ga10 hσ17 zc_s10 (σ17 3 3) (by omega) (by omega)
    refine zr_aald (pc := 29) hV dX9_removeLatest_29 (zc_k10 zc_s10) (Or.inl rfl) (zc_pos zc_s10 rfl) rfl (by omega) (zc_pos ga29 rfl).1 ?_
    obtain ⟨o29, eo29⟩ : ∃ o, σ17 10 (σ17 3 3) = o := ⟨_, rfl⟩
    rw [eo29] at ga29 ⊢
    have ko29 := ga29
    have po29 := zc_pos ko29 rfl
    show V 30 [some (ZR 3)] [ZR o29, ZR 3] 284 σ17
    refine zr_iconst (pc := 30) hV (-1) dX9_removeLatest_30 rfl ?_
    refine zr_callVv (pc := 31) hV [ZR o29, ZI (-1)] (st := []) (c_X9_markBits_2 (σ := σ17) hσ17 o29 ko29 (-1) (by omega)) dX9_removeLatest_31 mX9_84 (zc_k3 zc_s3) (zc_pos zc_s3 rfl) (by decide) (Nat.le_of_ble_eq_true rfl) (Nat.le_refl _) (fun σ31 pσ31 => ?_)
    obtain ⟨hσ31, hfσ31, pσ31, wσ31⟩ := pσ31
    have hFσ31 := zc_Fc hfσ31 rfl hFσ17
    have t6 := zc_g3_2 hσ17 zc_s3
    have t7 : σ17 3 2 = σ 3 2 := by rw [eσ17]; exact zq_up_ne (by omega)
    have t8 := zc_g4_1 hσ17 ko29
    have t9 : σ17 o29 1 = σ o29 1 := by rw [eσ17]; exact zq_up_ne (zc_dk ko29 zc_s3 rfl)
    have t10 := zc_g4_2 hσ17 ko29
    have t11 : σ17 o29 2 = σ o29 2 := by rw [eσ17]; exact zq_up_ne (zc_dk ko29 zc_s3 rfl)
    have z33 : σ17 3 3 = σ 3 3 - 1 := by omega
    have zo : o29 = σ 10 (σ 3 3 - 1) := by rw [← eo29, z33, eσ17, zq_up_ne (by omega)]
    have f32 : σ17 3 2 = σ 3 2 := hFσ17 3 2 (zc_out_at zc_s3 rfl)
    have f1 : σ17 o29 1 = σ o29 1 := hFσ17 o29 1 (zc_out_at ko29 rfl)
    have f2 : σ17 o29 2 = σ o29 2 := hFσ17 o29 2 (zc_out_at ko29 rfl)
    rw [f32, f1, f2, zo] at wσ31
    refine zr_aload_n (pc := 34) hV dX9_removeLatest_34 rfl rfl ?_
    refine zr_getI (pc := 35) hV 3 dX9_removeLatest_35 fX9_36 rfl rfl (zc_k3 zc_s3) (zc_pos zc_s3 rfl) ?_
    have t12 := zc_g3_3 hσ31 zc_s3
    have t13 : σ31 3 3 = σ17 3 3 := hfσ31 _ _ (zc_out_at zc_s3 rfl)
    have t14 : σ17 3 3 = (σ 3 3) - 1 := by rw [eσ17]; exact zq_up_same _ _ _ _
    have t15 := zc_g3_3 hσ31 zc_s3
    have t16 : σ31 3 3 = σ17 3 3 := hfσ31 _ _ (zc_out_at zc_s3 rfl)
    have t17 : σ17 3 3 = (σ 3 3) - 1 := by rw [eσ17]; exact zq_up_same _ _ _ _
    exact zr_iret (pc := 38) hV dX9_removeLatest_38 rfl rfl ⟨_, rfl, (by omega), hσ31, hFσ31, (by omega), (show (σ 3 3 = 0 → ∀ i, σ31 11 i = σ 11 i) ∧ (σ 3 3 ≠ 0 → zt_mark σ σ31 (zx_p2 (σ 3 2)) (σ (σ 10 (σ 3 3 - 1)) 1) (σ (σ 10 (σ 3 3 - 1)) 2) (-1)) from ⟨fun h => absurd h (by omega), fun _ => (fun i => by have q := wσ31 i; rw [eσ17, zq_up_ne (by omega)] at q; exact q)⟩)⟩
  · show V 7 [some (ZR 3)] [] 284 σ
    refine zr_bipush (pc := 7) hV (-2) dX9_removeLatest_7 (by decide) ?_
    have t18 := zc_g3_3 hσ zc_s3
    exact zr_iret (pc := 9) hV dX9_removeLatest_9 rfl rfl ⟨_, rfl, ⟨by decide, by decide⟩, hσ, hFσ, (by omega), (show (σ 3 3 = 0 → ∀ i, σ 11 i = σ 11 i) ∧ (σ 3 3 ≠ 0 → zt_mark σ σ (zx_p2 (σ 3 2)) (σ (σ 10 (σ 3 3 - 1)) 1) (σ (σ 10 (σ 3 3 - 1)) 2) (-1)) from ⟨fun _ => fun _ => rfl, fun h => absurd (by omega) h⟩)⟩
set_option maxHeartbeats 800000 in
theorem c_X11_order_2 {σ : zq_S} (hσ : zc_T σ) (sp : Int) (esp : σ 3 5 = sp) (ksp : zc_kd sp = 4) (q0 : ∀ i, 0 ≤ i → i < 20 → σ 10 i ≠ sp) (Uσ : zc_U σ) : zq_C zc_w yX11_order cX11_order 3 (some .int) 7 151 284 284 [ZR 0] σ (zq_pi (fun r τ => zc_T τ ∧ zc_Fr [(1, 1), (1, 2), (1, 3), (3, 3), (3, 4), (3, 5), (4, 0), (4, 1), (4, 2), (4, 4), (4, 5), (4, 6), (4, 11), (4, 12), (4, 13), (4, 14), (4, 15), (4, 16), (5, -1), (6, -1), (7, -1), (8, -1), (9, -1), (10, -1), (11, -1)] σ τ ∧ zd_Own sp σ τ ∧ (τ 1 1 = 0) ∧ zq_hid (zt_oc σ τ sp r) ∧ zc_U τ)) := by
  refine zq_C_of (by decide) (Nat.le_refl _) (Nat.le_of_ble_eq_true rfl) [some (ZR 0), none, none] rfl (fun V hV => ?_)
  have hFσ := zc_Fr_rf [(1, 1), (1, 2), (1, 3), (3, 3), (3, 4), (3, 5), (4, 0), (4, 1), (4, 2), (4, 4), (4, 5), (4, 6), (4, 11), (4, 12), (4, 13), (4, 14), (4, 15), (4, 16), (5, -1), (6, -1), (7, -1), (8, -1), (9, -1), (10, -1), (11, -1)] σ
  have hOσ := zd_Own_rf sp σ
  have posp := zc_pos ksp rfl
  have z33 := zc_g3_3 hσ zc_s3
  show V 0 [some (ZR 0), none, none] [] 284 σ
  refine zr_aload_n (pc := 0) hV dX11_order_0 rfl rfl ?_
  refine zr_getR (pc := 1) hV 2 132 dX11_order_1 fX11_28 rfl rfl (zc_k0 zc_s0) (zc_pos zc_s0 rfl) (zc_g0_2 hσ zc_s0) (by decide) ?_
  refine zr_callVi (pc := 4) hV [] (st := []) (c_X4_readOrder_2 (σ := σ) hσ sp (by omega) ksp) dX11_order_4 mX11_97 (zc_k132 zc_s132) (zc_pos zc_s132 rfl) (by decide) (Nat.le_of_ble_eq_true rfl) (Nat.le_refl _) (fun r4 σ4 hr4 pσ4 => ?_)
  obtain ⟨hσ4, hfσ4, hoσ4, pσ4, wσ4⟩ := pσ4
  have hFσ4 := zc_Fc hfσ4 rfl hFσ
  have hOσ4 := zd_Oo hoσ4 hOσ
  have Uσ4 : zc_U σ4 := zc_U_fr hfσ4 rfl hσ Uσ
  have t1 := zc_g1_1 hσ zc_s1
  have t2 := zc_g3_0 hσ zc_s3
  have t3 := zc_g3_1 hσ zc_s3
  have t4 := zc_g3_2 hσ zc_s3
  have d3 : σ4 3 3 = σ 3 3 := hfσ4 3 3 (zc_out_at zc_s3 rfl)
  have dc : ∀ i, 0 ≤ i → i < σ 3 3 → σ4 (σ4 10 i) 0 = σ (σ 10 i) 0 := fun i h0 h1 => by rw [hfσ4 10 i (zc_out_ar zc_s10 rfl)]; have kd := zc_ga10 hσ zc_s10 i (by omega) (by omega); have := zt_own4 (k := 0) kd ksp (q0 i h0 (by omega)) (by omega) (by omega); exact hoσ4 _ _ (by rw [kd]; decide) (by rw [kd]; decide) (by omega)
  have dq : (∃ i, 0 ≤ i ∧ i < σ4 3 3 ∧ σ4 (σ4 10 i) 0 = zt_na (σ 2) (zt_z0 (σ 2) (σ 1 1)) (zt_n0 (σ 2) (σ 1 1))) ↔ (∃ i, 0 ≤ i ∧ i < σ 3 3 ∧ σ (σ 10 i) 0 = zt_na (σ 2) (zt_z0 (σ 2) (σ 1 1)) (zt_n0 (σ 2) (σ 1 1))) := ⟨fun ⟨i, h0, h1, h2⟩ => ⟨i, h0, by omega, by rw [← dc i h0 (by omega)]; exact h2⟩, fun ⟨i, h0, h1, h2⟩ => ⟨i, h0, by omega, by rw [dc i h0 h1]; exact h2⟩⟩
  refine zr_istore_n (pc := 7) hV [some (ZR 0), some (ZI r4), none] dX11_order_7 rfl (by decide) rfl rfl ?_
  refine zr_aload_n (pc := 8) hV dX11_order_8 rfl rfl ?_
  refine zr_getR (pc := 9) hV 0 1 dX11_order_9 fX11_10 rfl rfl (zc_k0 zc_s0) (zc_pos zc_s0 rfl) (zc_g0_0 hσ4 zc_s0) (by decide) ?_
  refine zr_callVp (pc := 12) hV [] (st := []) (c_X8_fault_2 (σ := σ4) hσ4) dX11_order_12 mX11_101 (zc_k1 zc_s1) (zc_pos zc_s1 rfl) (by decide) (Nat.le_of_ble_eq_true rfl) (Nat.le_refl _) (fun r12 hr12 pr12 => ?_)
  have t5 := zc_g1_2 hσ4 zc_s1
  refine zr_istore_n (pc := 15) hV [some (ZR 0), some (ZI r4), some (ZI r12)] dX11_order_15 rfl (by decide) rfl rfl ?_
  refine zr_aload_n (pc := 16) hV dX11_order_16 rfl rfl ?_
  refine zr_getR (pc := 17) hV 0 1 dX11_order_17 fX11_10 rfl rfl (zc_k0 zc_s0) (zc_pos zc_s0 rfl) (zc_g0_0 hσ4 zc_s0) (by decide) ?_
  refine zr_callVv (pc := 20) hV [] (st := []) (c_X8_empty_2 (σ := σ4) hσ4) dX11_order_20 mX11_104 (zc_k1 zc_s1) (zc_pos zc_s1 rfl) (by decide) (Nat.le_of_ble_eq_true rfl) (Nat.le_refl _) (fun σ20 pσ20 => ?_)
  obtain ⟨hσ20, hfσ20, pσ20⟩ := pσ20
  have hFσ20 := zc_Fc hfσ20 rfl hFσ4
  have hOσ20 := zd_Oc hfσ20 rfl hOσ4
  have Uσ20 : zc_U σ20 := zc_U_fr hfσ20 rfl hσ4 Uσ4
  have t6 := zc_g1_1 hσ20 zc_s1
  have t7 := zc_g1_2 hσ20 zc_s1
  refine zr_iload_n (pc := 23) hV dX11_order_23 rfl rfl ?_
  refine zr_if_eq (pc := 24) hV 37 dX11_order_24 (by decide) (by omega) (fun c8 => ?_) (fun c8 => ?_)
  · show V 37 [some (ZR 0), some (ZI r4), some (ZI r12)] [] 284 σ20
    refine zr_iload_n (pc := 37) hV dX11_order_37 rfl rfl ?_
    show V 38 [some (ZR 0), some (ZI r4), some (ZI r12)] [ZI r12] 284 σ20
    have t9 := zc_g1_1 hσ20 zc_s1
    exact zr_iret (pc := 38) hV dX11_order_38 rfl rfl ⟨_, rfl, (by omega), hσ20, hFσ20, hOσ20, (by omega), (show zt_oc σ σ20 sp r12 from ⟨fun d => ⟨by have := (wσ4.2 (by omega)).1 (dq.mpr d); omega, ⟨by rw [hfσ20 3 _ (zc_out_at zc_s3 rfl), hfσ4 3 _ (zc_out_at zc_s3 rfl)], by rw [hfσ20 3 _ (zc_out_at zc_s3 rfl), hfσ4 3 _ (zc_out_at zc_s3 rfl)], by rw [hfσ20 3 _ (zc_out_at zc_s3 rfl), hfσ4 3 _ (zc_out_at zc_s3 rfl)], fun i => by rw [hfσ20 10 _ (zc_out_ar zc_s10 rfl), hfσ4 10 _ (zc_out_ar zc_s10 rfl)], fun i => by rw [hfσ20 11 _ (zc_out_ar zc_s11 rfl), hfσ4 11 _ (zc_out_ar zc_s11 rfl)]⟩⟩, fun nd nk => ⟨by have := ((wσ4.2 (by omega)).2 (fun q => nd (dq.mp q))).2; omega, ⟨by rw [hfσ20 3 _ (zc_out_at zc_s3 rfl), hfσ4 3 _ (zc_out_at zc_s3 rfl)], by rw [hfσ20 3 _ (zc_out_at zc_s3 rfl), hfσ4 3 _ (zc_out_at zc_s3 rfl)], by rw [hfσ20 3 _ (zc_out_at zc_s3 rfl), hfσ4 3 _ (zc_out_at zc_s3 rfl)], fun i => by rw [hfσ20 10 _ (zc_out_ar zc_s10 rfl), hfσ4 10 _ (zc_out_ar zc_s10 rfl)], fun i => by rw [hfσ20 11 _ (zc_out_ar zc_s11 rfl), hfσ4 11 _ (zc_out_ar zc_s11 rfl)]⟩⟩, fun nd k => absurd k ((wσ4.2 (by omega)).2 (fun q => nd (dq.mp q))).1⟩), Uσ20⟩
  · show V 27 [some (ZR 0), some (ZI r4), some (ZI r12)] [] 284 σ20
    refine zr_aload_n (pc := 27) hV dX11_order_27 rfl rfl ?_
    refine zr_getR (pc := 28) hV 1 3 dX11_order_28 fX11_19 rfl rfl (zc_k0 zc_s0) (zc_pos zc_s0 rfl) (zc_g0_1 hσ20 zc_s0) (by decide) ?_
    have t10 : σ20 3 5 = σ4 3 5 := hfσ20 _ _ (zc_out_at zc_s3 rfl)
    have t11 : σ4 3 5 = σ 3 5 := hfσ4 _ _ (zc_out_at zc_s3 rfl)
    refine zr_callVi (pc := 31) hV [] (st := []) (c_X9_acceptSpare_2 (σ := σ20) hσ20 sp (by omega) ksp) dX11_order_31 mX11_107 (zc_k3 zc_s3) (zc_pos zc_s3 rfl) (by decide) (Nat.le_of_ble_eq_true rfl) (Nat.le_refl _) (fun r31 σ31 hr31 pσ31 => ?_)
    obtain ⟨hσ31, hfσ31, hoσ31, pσ31, wσ31⟩ := pσ31
    have hFσ31 := zc_Fc hfσ31 rfl hFσ20
    have hOσ31 := zd_Oo hoσ31 hOσ20
    have Uσ31 : zc_U σ31 := zc_U_fr hfσ31 rfl hσ20 Uσ20
    refine zr_goto (pc := 34) hV 38 dX11_order_34 (by decide) ?_
    show V 38 [some (ZR 0), some (ZI r4), some (ZI r12)] [ZI r31] 284 σ31
    have t12 := zc_g1_1 hσ31 zc_s1
    have t13 : σ31 1 1 = σ20 1 1 := hfσ31 _ _ (zc_out_at zc_s1 rfl)
    exact zr_iret (pc := 38) hV dX11_order_38 rfl rfl ⟨_, rfl, (by omega), hσ31, hFσ31, hOσ31, (by omega), (show zt_oc σ σ31 sp r31 from (by have v := wσ4.1 (by omega); exact ⟨fun d => absurd (dq.mpr d) v.1, fun _ nk => absurd v.2.1 nk, fun _ _ => ⟨zt_cC_fr (by rw [hfσ31 sp _ (zc_out_at ksp rfl), hfσ20 sp _ (zc_out_at ksp rfl)]) (by rw [hfσ31 sp _ (zc_out_at ksp rfl), hfσ20 sp _ (zc_out_at ksp rfl)]) (by rw [hfσ31 sp _ (zc_out_at ksp rfl), hfσ20 sp _ (zc_out_at ksp rfl)]) (by rw [hfσ31 sp _ (zc_out_at ksp rfl), hfσ20 sp _ (zc_out_at ksp rfl)]) (by rw [hfσ31 sp _ (zc_out_at ksp rfl), hfσ20 sp _ (zc_out_at ksp rfl)]) (by rw [hfσ31 sp _ (zc_out_at ksp rfl), hfσ20 sp _ (zc_out_at ksp rfl)]) (by rw [hfσ31 sp _ (zc_out_at ksp rfl), hfσ20 sp _ (zc_out_at ksp rfl)]) (by rw [hfσ31 sp _ (zc_out_at ksp rfl), hfσ20 sp _ (zc_out_at ksp rfl)]) (by rw [hfσ31 sp _ (zc_out_at ksp rfl), hfσ20 sp _ (zc_out_at ksp rfl)]) (by rw [hfσ31 sp _ (zc_out_at ksp rfl), hfσ20 sp _ (zc_out_at ksp rfl)]) (by rw [hfσ31 sp _ (zc_out_at ksp rfl), hfσ20 sp _ (zc_out_at ksp rfl)]) (fun i => by rw [hfσ31 (sp + 1) _ (zc_out_ar (zc_p4_1 ksp) rfl), hfσ20 (sp + 1) _ (zc_out_ar (zc_p4_1 ksp) rfl)]) (fun i => by rw [hfσ31 (sp + 2) _ (zc_out_ar (zc_p4_2 ksp) rfl), hfσ20 (sp + 2) _ (zc_out_ar (zc_p4_2 ksp) rfl)]) (fun i => by rw [hfσ31 (sp + 3) _ (zc_out_ar (zc_p4_3 ksp) rfl), hfσ20 (sp + 3) _ (zc_out_ar (zc_p4_3 ksp) rfl)]) (fun i => by rw [hfσ31 (sp + 4) _ (zc_out_ar (zc_p4_4 ksp) rfl), hfσ20 (sp + 4) _ (zc_out_ar (zc_p4_4 ksp) rfl)]) (fun i => by rw [hfσ31 (sp + 5) _ (zc_out_ar (zc_p4_5 ksp) rfl), hfσ20 (sp + 5) _ (zc_out_ar (zc_p4_5 ksp) rfl)]) v.2.2, zt_acc_fr (by rw [hfσ20 3 _ (zc_out_at zc_s3 rfl), hfσ4 3 _ (zc_out_at zc_s3 rfl)]) (by rw [hfσ20 3 _ (zc_out_at zc_s3 rfl), hfσ4 3 _ (zc_out_at zc_s3 rfl)]) (by rw [hfσ20 3 _ (zc_out_at zc_s3 rfl), hfσ4 3 _ (zc_out_at zc_s3 rfl)]) (by rw [hfσ20 3 _ (zc_out_at zc_s3 rfl), hfσ4 3 _ (zc_out_at zc_s3 rfl)]) (fun i => by rw [hfσ20 10 _ (zc_out_ar zc_s10 rfl), hfσ4 10 _ (zc_out_ar zc_s10 rfl)]) (fun i => by rw [hfσ20 11 _ (zc_out_ar zc_s11 rfl), hfσ4 11 _ (zc_out_ar zc_s11 rfl)]) (fun i h0 h1 => hfσ31 (σ 10 i) 1 (zc_out_at (zc_ga10 hσ zc_s10 i (by omega) (by omega)) rfl)) (fun i h0 h1 => hfσ31 (σ 10 i) 2 (zc_out_at (zc_ga10 hσ zc_s10 i (by omega) (by omega)) rfl)) (hfσ31 sp 1 (zc_out_at ksp rfl)) (hfσ31 sp 2 (zc_out_at ksp rfl)) wσ31⟩⟩)), Uσ31⟩
set_option maxHeartbeats 800000 in
theorem c_X11_unorder_2 {σ : zq_S} (hσ : zc_T σ)   (Uσ : zc_U σ) : zq_C zc_w yX11_unorder cX11_unorder 1 (some .int) 3 64 284 284 [ZR 0] σ (zq_pi (fun r τ => zc_T τ ∧ zc_Fr [(3, 3), (11, -1)] σ τ ∧ ((σ 3 3 = 0 → r = -2 ∧ τ 3 3 = 0) ∧ (σ 3 3 ≠ 0 → r = σ 3 3 - 1 ∧ τ 3 3 = σ 3 3 - 1)) ∧ zq_hid ((σ 3 3 = 0 → ∀ i, τ 11 i = σ 11 i) ∧ (σ 3 3 ≠ 0 → zt_mark σ τ (zx_p2 (σ 3 2)) (σ (σ 10 (σ 3 3 - 1)) 1) (σ (σ 10 (σ 3 3 - 1)) 2) (-1))) ∧ zc_U τ)) := by
  refine zq_C_of (by decide) (Nat.le_refl _) (Nat.le_of_ble_eq_true rfl) [some (ZR 0)] rfl (fun V hV => ?_)
  have hFσ := zc_Fr_rf [(3, 3), (11, -1)] σ
  show V 0 [some (ZR 0)] [] 284 σ
  refine zr_aload_n (pc := 0) hV dX11_unorder_0 rfl rfl ?_
  refine zr_getR (pc := 1) hV 1 3 dX11_unorder_1 fX11_19 rfl rfl (zc_k0 zc_s0) (zc_pos zc_s0 rfl) (zc_g0_1 hσ zc_s0) (by decide) ?_
  refine zr_callVi (pc := 4) hV [] (st := []) (c_X9_removeLatest_2 (σ := σ) hσ) dX11_unorder_4 mX11_114 (zc_k3 zc_s3) (zc_pos zc_s3 rfl) (by decide) (Nat.le_of_ble_eq_true rfl) (Nat.le_refl _) (fun r4 σ4 hr4 pσ4 => ?_)
  obtain ⟨hσ4, hfσ4, pσ4, wσ4⟩ := pσ4
  have hFσ4 := zc_Fc hfσ4 rfl hFσ
  have Uσ4 : zc_U σ4 := zc_U_fr hfσ4 rfl hσ Uσ
  have t1 := zc_g3_2 hσ zc_s3
  have t2 := zc_g3_3 hσ zc_s3
  have t3 := zc_g3_3 hσ4 zc_s3
  have t4 := zc_g3_3 hσ4 zc_s3
  exact zr_iret (pc := 7) hV dX11_unorder_7 rfl rfl ⟨_, rfl, (by omega), hσ4, hFσ4, (by omega), (show (σ 3 3 = 0 → ∀ i, σ4 11 i = σ 11 i) ∧ (σ 3 3 ≠ 0 → zt_mark σ σ4 (zx_p2 (σ 3 2)) (σ (σ 10 (σ 3 3 - 1)) 1) (σ (σ 10 (σ 3 3 - 1)) 2) (-1)) from wσ4), Uσ4⟩
