set_option maxHeartbeats 800000 in
theorem c_X11_isPlace {σ : zq_S} (place : Int) (q0 : zq_in place) : zq_C zc_w yX11_isPlace cX11_isPlace 1 (some .boolean) 0 0 284 284 [ZI place] σ (zq_pp σ (fun r => (0 ≤ r ∧ r ≤ 1) ∧ (r = 1 ↔ 0 ≤ place ∧ place ≤ 63))) := by
  refine zq_C_of (by decide) (Nat.le_refl _) (Nat.le_of_ble_eq_true rfl) [some (ZI place)] rfl (fun V hV => ?_)
  show V 0 [some (ZI place)] [] 284 σ
  refine zr_iload_n (pc := 0) hV dX11_isPlace_0 rfl rfl ?_
  refine zr_if_lt (pc := 1) hV 14 dX11_isPlace_1 (by decide) (by omega) (fun c1 => ?_) (fun c1 => ?_)
  · show V 14 [some (ZI place)] [] 284 σ
    refine zr_iconst (pc := 14) hV 0 dX11_isPlace_14 rfl ?_
    show V 15 [some (ZI place)] [ZI 0] 284 σ
    exact zr_zret (pc := 15) hV dX11_isPlace_15 rfl rfl (by omega) ⟨rfl, _, rfl, ⟨by decide, by decide⟩, (by omega)⟩
  · show V 4 [some (ZI place)] [] 284 σ
    refine zr_iload_n (pc := 4) hV dX11_isPlace_4 rfl rfl ?_
    refine zr_bipush (pc := 5) hV 64 dX11_isPlace_5 (by decide) ?_
    refine zr_icmp_ge (pc := 7) hV 14 dX11_isPlace_7 (by decide) (by omega) ⟨by decide, by decide⟩ (fun c2 => ?_) (fun c2 => ?_)
    · show V 14 [some (ZI place)] [] 284 σ
      refine zr_iconst (pc := 14) hV 0 dX11_isPlace_14 rfl ?_
      show V 15 [some (ZI place)] [ZI 0] 284 σ
      exact zr_zret (pc := 15) hV dX11_isPlace_15 rfl rfl (by omega) ⟨rfl, _, rfl, ⟨by decide, by decide⟩, (by omega)⟩
    · show V 10 [some (ZI place)] [] 284 σ
      refine zr_iconst (pc := 10) hV 1 dX11_isPlace_10 rfl ?_
      refine zr_goto (pc := 11) hV 15 dX11_isPlace_11 (by decide) ?_
      show V 15 [some (ZI place)] [ZI 1] 284 σ
      exact zr_zret (pc := 15) hV dX11_isPlace_15 rfl rfl (by omega) ⟨rfl, _, rfl, ⟨by decide, by decide⟩, (by omega)⟩
set_option maxHeartbeats 800000 in
theorem c_X11_within {σ : zq_S} (n : Int) (least : Int) (most : Int) (q0 : zq_in n) (q1 : zq_in least) (q2 : zq_in most) : zq_C zc_w yX11_within cX11_within 3 (some .boolean) 0 0 284 284 [ZI n, ZI least, ZI most] σ (zq_pp σ (fun r => (0 ≤ r ∧ r ≤ 1) ∧ (r = 1 ↔ least ≤ n ∧ n ≤ most))) := by
  refine zq_C_of (by decide) (Nat.le_refl _) (Nat.le_of_ble_eq_true rfl) [some (ZI n), some (ZI least), some (ZI most)] rfl (fun V hV => ?_)
  show V 0 [some (ZI n), some (ZI least), some (ZI most)] [] 284 σ
  refine zr_iload_n (pc := 0) hV dX11_within_0 rfl rfl ?_
  refine zr_iload_n (pc := 1) hV dX11_within_1 rfl rfl ?_
  refine zr_icmp_lt (pc := 2) hV 14 dX11_within_2 (by decide) (by omega) (by omega) (fun c1 => ?_) (fun c1 => ?_)
  · show V 14 [some (ZI n), some (ZI least), some (ZI most)] [] 284 σ
    refine zr_iconst (pc := 14) hV 0 dX11_within_14 rfl ?_
    show V 15 [some (ZI n), some (ZI least), some (ZI most)] [ZI 0] 284 σ
    exact zr_zret (pc := 15) hV dX11_within_15 rfl rfl (by omega) ⟨rfl, _, rfl, ⟨by decide, by decide⟩, (by omega)⟩
  · show V 5 [some (ZI n), some (ZI least), some (ZI most)] [] 284 σ
    refine zr_iload_n (pc := 5) hV dX11_within_5 rfl rfl ?_
    refine zr_iload_n (pc := 6) hV dX11_within_6 rfl rfl ?_
    refine zr_icmp_gt (pc := 7) hV 14 dX11_within_7 (by decide) (by omega) (by omega) (fun c2 => ?_) (fun c2 => ?_)
    · show V 14 [some (ZI n), some (ZI least), some (ZI most)] [] 284 σ
      refine zr_iconst (pc := 14) hV 0 dX11_within_14 rfl ?_
      show V 15 [some (ZI n), some (ZI least), some (ZI most)] [ZI 0] 284 σ
      exact zr_zret (pc := 15) hV dX11_within_15 rfl rfl (by omega) ⟨rfl, _, rfl, ⟨by decide, by decide⟩, (by omega)⟩
    · show V 10 [some (ZI n), some (ZI least), some (ZI most)] [] 284 σ
      refine zr_iconst (pc := 10) hV 1 dX11_within_10 rfl ?_
      refine zr_goto (pc := 11) hV 15 dX11_within_11 (by decide) ?_
      show V 15 [some (ZI n), some (ZI least), some (ZI most)] [ZI 1] 284 σ
      exact zr_zret (pc := 15) hV dX11_within_15 rfl rfl (by omega) ⟨rfl, _, rfl, ⟨by decide, by decide⟩, (by omega)⟩
set_option maxHeartbeats 800000 in
theorem c_X11_shared {σ : zq_S} (hσ : zc_T σ)   (Uσ : zc_U σ) : zq_C zc_w yX11_shared cX11_shared 1 (some .int) 0 0 284 284 [ZR 0] σ (zq_pp σ (fun r => True)) := by
  refine zq_C_of (by decide) (Nat.le_refl _) (Nat.le_of_ble_eq_true rfl) [some (ZR 0)] rfl (fun V hV => ?_)
  show V 0 [some (ZR 0)] [] 284 σ
  refine zr_aload_n (pc := 0) hV dX11_shared_0 rfl rfl ?_
  refine zr_getR (pc := 1) hV 1 3 dX11_shared_1 fX11_19 rfl rfl (zc_k0 zc_s0) (zc_pos zc_s0 rfl) (zc_g0_1 hσ zc_s0) (by decide) ?_
  refine zr_getI (pc := 4) hV 4 dX11_shared_4 fX11_110 rfl rfl (zc_k3 zc_s3) (zc_pos zc_s3 rfl) ?_
  have t1 := zc_g3_4 hσ zc_s3
  exact zr_iret (pc := 7) hV dX11_shared_7 rfl rfl ⟨rfl, _, rfl, (by omega), trivial⟩
set_option maxHeartbeats 800000 in
theorem c_X11_about {σ : zq_S} (hσ : zc_T σ) (order : Int) (what : Int) (q0 : zq_in order) (q1 : zq_in what) (Uσ : zc_U σ) : zq_C zc_w yX11_about cX11_about 4 (some .int) 3 64 284 284 [ZR 0, ZI order, ZI what] σ (zq_pp σ (fun r => True)) := by
  refine zq_C_of (by decide) (Nat.le_refl _) (Nat.le_of_ble_eq_true rfl) [some (ZR 0), some (ZI order), some (ZI what), none] rfl (fun V hV => ?_)
  show V 0 [some (ZR 0), some (ZI order), some (ZI what), none] [] 284 σ
  refine zr_aload_n (pc := 0) hV dX11_about_0 rfl rfl ?_
  refine zr_getR (pc := 1) hV 1 3 dX11_about_1 fX11_19 rfl rfl (zc_k0 zc_s0) (zc_pos zc_s0 rfl) (zc_g0_1 hσ zc_s0) (by decide) ?_
  refine zr_iload_n (pc := 4) hV dX11_about_4 rfl rfl ?_
  refine zr_callVr (pc := 5) hV [ZI order] (st := []) (c_X9_numbered (σ := σ) hσ order (by omega)) dX11_about_5 mX11_117 (zc_k3 zc_s3) (zc_pos zc_s3 rfl) (by decide) (Nat.le_of_ble_eq_true rfl) (Nat.le_refl _) (fun r5 pr5 => ?_)
  refine zr_astore_nQ (pc := 8) hV [some (ZR 0), some (ZI order), some (ZI what), some (zq_nr r5)] dX11_about_8 rfl (by decide) rfl rfl ?_
  refine zr_aload_nQ (pc := 9) hV dX11_about_9 rfl rfl ?_
  by_cases c1 : r5 < 0
  · rw [zq_nr_n c1]
    refine zr_ifnonnullN (pc := 10) hV dX11_about_10 ?_
    show V 13 [some (ZR 0), some (ZI order), some (ZI what), some (ZN)] [] 284 σ
    refine zr_iconst (pc := 13) hV (-1) dX11_about_13 rfl ?_
    refine zr_goto (pc := 14) hV 22 dX11_about_14 (by decide) ?_
    show V 22 [some (ZR 0), some (ZI order), some (ZI what), some (ZN)] [ZI (-1)] 284 σ
    exact zr_iret (pc := 22) hV dX11_about_22 rfl rfl ⟨rfl, _, rfl, ⟨by decide, by decide⟩, trivial⟩
  · rw [zq_nr_p c1]
    have kr5 : zc_kd r5 = 4 := pr5.1 (by omega)
    have por5 := zc_pos kr5 rfl
    refine zr_ifnonnull (pc := 10) hV 17 dX11_about_10 (by decide) ?_
    show V 17 [some (ZR 0), some (ZI order), some (ZI what), some (ZR r5)] [] 284 σ
    refine zr_aload_n (pc := 17) hV dX11_about_17 rfl rfl ?_
    refine zr_iload_n (pc := 18) hV dX11_about_18 rfl rfl ?_
    refine zr_callVp (pc := 19) hV [ZI what] (st := []) (c_X3_tellAbout (σ := σ) hσ r5 kr5 what (by omega)) dX11_about_19 mX11_121 (zc_k4 kr5) (zc_pos kr5 rfl) (by decide) (Nat.le_of_ble_eq_true rfl) (Nat.le_refl _) (fun r19 hr19 pr19 => ?_)
    show V 22 [some (ZR 0), some (ZI order), some (ZI what), some (ZR r5)] [ZI r19] 284 σ
    exact zr_iret (pc := 22) hV dX11_about_22 rfl rfl ⟨rfl, _, rfl, (by omega), trivial⟩
set_option maxHeartbeats 800000 in
theorem c_X11_look {σ : zq_S} (hσ : zc_T σ) (bits : Int) (q0 : zq_in bits) (Uσ : zc_U σ) : zq_C zc_w yX11_look cX11_look 3 (some .int) 2 41 284 284 [ZR 0, ZI bits] σ (zq_pp σ (fun r => True)) := by
  refine zq_C_of (by decide) (Nat.le_refl _) (Nat.le_of_ble_eq_true rfl) [some (ZR 0), some (ZI bits), none] rfl (fun V hV => ?_)
  show V 0 [some (ZR 0), some (ZI bits), none] [] 284 σ
  refine zr_aload_n (pc := 0) hV dX11_look_0 rfl rfl ?_
  refine zr_getR (pc := 1) hV 1 3 dX11_look_1 fX11_19 rfl rfl (zc_k0 zc_s0) (zc_pos zc_s0 rfl) (zc_g0_1 hσ zc_s0) (by decide) ?_
  refine zr_iload_n (pc := 4) hV dX11_look_4 rfl rfl ?_
  refine zr_callVp (pc := 5) hV [ZI bits] (st := []) (c_X9_isBits (σ := σ) hσ bits (by omega)) dX11_look_5 mX11_127 (zc_k3 zc_s3) (zc_pos zc_s3 rfl) (by decide) (Nat.le_of_ble_eq_true rfl) (Nat.le_refl _) (fun r5 hr5 pr5 => ?_)
  refine zr_if_ne (pc := 8) hV 13 dX11_look_8 (by decide) (by omega) (fun c1 => ?_) (fun c1 => ?_)
  · show V 13 [some (ZR 0), some (ZI bits), none] [] 284 σ
    refine zr_aload_n (pc := 13) hV dX11_look_13 rfl rfl ?_
    refine zr_getR (pc := 14) hV 1 3 dX11_look_14 fX11_19 rfl rfl (zc_k0 zc_s0) (zc_pos zc_s0 rfl) (zc_g0_1 hσ zc_s0) (by decide) ?_
    refine zr_iload_n (pc := 17) hV dX11_look_17 rfl rfl ?_
    refine zr_callVp (pc := 18) hV [ZI bits] (st := []) (c_X9_numberOf (σ := σ) hσ bits (by omega)) dX11_look_18 mX11_131 (zc_k3 zc_s3) (zc_pos zc_s3 rfl) (by decide) (Nat.le_of_ble_eq_true rfl) (Nat.le_refl _) (fun r18 hr18 pr18 => ?_)
    refine zr_istore_n (pc := 21) hV [some (ZR 0), some (ZI bits), some (ZI r18)] dX11_look_21 rfl (by decide) rfl rfl ?_
    refine zr_iload_n (pc := 22) hV dX11_look_22 rfl rfl ?_
    refine zr_if_ge (pc := 23) hV 31 dX11_look_23 (by decide) (by omega) (fun c2 => ?_) (fun c2 => ?_)
    · show V 31 [some (ZR 0), some (ZI bits), some (ZI r18)] [] 284 σ
      refine zr_iload_n (pc := 31) hV dX11_look_31 rfl rfl ?_
      show V 32 [some (ZR 0), some (ZI bits), some (ZI r18)] [ZI r18] 284 σ
      exact zr_iret (pc := 32) hV dX11_look_32 rfl rfl ⟨rfl, _, rfl, (by omega), trivial⟩
    · show V 26 [some (ZR 0), some (ZI bits), some (ZI r18)] [] 284 σ
      refine zr_bipush (pc := 26) hV (-4) dX11_look_26 (by decide) ?_
      refine zr_goto (pc := 28) hV 32 dX11_look_28 (by decide) ?_
      show V 32 [some (ZR 0), some (ZI bits), some (ZI r18)] [ZI (-4)] 284 σ
      exact zr_iret (pc := 32) hV dX11_look_32 rfl rfl ⟨rfl, _, rfl, ⟨by decide, by decide⟩, trivial⟩
  · show V 11 [some (ZR 0), some (ZI bits), none] [] 284 σ
    refine zr_iconst (pc := 11) hV (-1) dX11_look_11 rfl ?_
    exact zr_iret (pc := 12) hV dX11_look_12 rfl rfl ⟨rfl, _, rfl, ⟨by decide, by decide⟩, trivial⟩
set_option maxHeartbeats 800000 in
theorem c_X11_field {σ : zq_S} (hσ : zc_T σ) (bits : Int) (f : Int) (q0 : zq_in bits) (q1 : zq_in f) (Uσ : zc_U σ) : zq_C zc_w yX11_field cX11_field 4 (some .int) 2 42 284 284 [ZR 0, ZI bits, ZI f] σ (zq_pp σ (fun r => True)) := by
  refine zq_C_of (by decide) (Nat.le_refl _) (Nat.le_of_ble_eq_true rfl) [some (ZR 0), some (ZI bits), some (ZI f), none] rfl (fun V hV => ?_)
  show V 0 [some (ZR 0), some (ZI bits), some (ZI f), none] [] 284 σ
  refine zr_aload_n (pc := 0) hV dX11_field_0 rfl rfl ?_
  refine zr_getR (pc := 1) hV 1 3 dX11_field_1 fX11_19 rfl rfl (zc_k0 zc_s0) (zc_pos zc_s0 rfl) (zc_g0_1 hσ zc_s0) (by decide) ?_
  refine zr_iload_n (pc := 4) hV dX11_field_4 rfl rfl ?_
  refine zr_callVp (pc := 5) hV [ZI bits] (st := []) (c_X9_isBits (σ := σ) hσ bits (by omega)) dX11_field_5 mX11_127 (zc_k3 zc_s3) (zc_pos zc_s3 rfl) (by decide) (Nat.le_of_ble_eq_true rfl) (Nat.le_refl _) (fun r5 hr5 pr5 => ?_)
  refine zr_if_eq (pc := 8) hV 20 dX11_field_8 (by decide) (by omega) (fun c1 => ?_) (fun c1 => ?_)
  · show V 20 [some (ZR 0), some (ZI bits), some (ZI f), none] [] 284 σ
    refine zr_iconst (pc := 20) hV (-1) dX11_field_20 rfl ?_
    exact zr_iret (pc := 21) hV dX11_field_21 rfl rfl ⟨rfl, _, rfl, ⟨by decide, by decide⟩, trivial⟩
  · show V 11 [some (ZR 0), some (ZI bits), some (ZI f), none] [] 284 σ
    refine zr_iload_n (pc := 11) hV dX11_field_11 rfl rfl ?_
    refine zr_iconst (pc := 12) hV 0 dX11_field_12 rfl ?_
    refine zr_iconst (pc := 13) hV 3 dX11_field_13 rfl ?_
    refine zr_callSp (pc := 14) hV [ZI f, ZI 0, ZI 3] (st := []) (c_X11_within (σ := σ) f 0 3 (by omega) (by omega) (by omega)) dX11_field_14 mX11_89 (by decide) (Nat.le_of_ble_eq_true rfl) (Nat.le_refl _) (fun r14 hr14 pr14 => ?_)
    refine zr_if_ne (pc := 17) hV 22 dX11_field_17 (by decide) (by omega) (fun c2 => ?_) (fun c2 => ?_)
    · show V 22 [some (ZR 0), some (ZI bits), some (ZI f), none] [] 284 σ
      refine zr_aload_n (pc := 22) hV dX11_field_22 rfl rfl ?_
      refine zr_getR (pc := 23) hV 1 3 dX11_field_23 fX11_19 rfl rfl (zc_k0 zc_s0) (zc_pos zc_s0 rfl) (zc_g0_1 hσ zc_s0) (by decide) ?_
      refine zr_iload_n (pc := 26) hV dX11_field_26 rfl rfl ?_
      refine zr_callVr (pc := 27) hV [ZI bits] (st := []) (c_X9_orderOf (σ := σ) hσ bits (by omega)) dX11_field_27 mX11_134 (zc_k3 zc_s3) (zc_pos zc_s3 rfl) (by decide) (Nat.le_of_ble_eq_true rfl) (Nat.le_refl _) (fun r27 pr27 => ?_)
      refine zr_astore_nQ (pc := 30) hV [some (ZR 0), some (ZI bits), some (ZI f), some (zq_nr r27)] dX11_field_30 rfl (by decide) rfl rfl ?_
      refine zr_aload_nQ (pc := 31) hV dX11_field_31 rfl rfl ?_
      by_cases c3 : r27 < 0
      · rw [zq_nr_n c3]
        refine zr_ifnullN (pc := 32) hV 43 dX11_field_32 (by decide) ?_
        show V 43 [some (ZR 0), some (ZI bits), some (ZI f), some (ZN)] [] 284 σ
        refine zr_bipush (pc := 43) hV (-4) dX11_field_43 (by decide) ?_
        refine zr_goto (pc := 45) hV 54 dX11_field_45 (by decide) ?_
        show V 54 [some (ZR 0), some (ZI bits), some (ZI f), some (ZN)] [ZI (-4)] 284 σ
        exact zr_iret (pc := 54) hV dX11_field_54 rfl rfl ⟨rfl, _, rfl, ⟨by decide, by decide⟩, trivial⟩
      · rw [zq_nr_p c3]
        have kr27 : zc_kd r27 = 4 := pr27.1 (by omega)
        have por27 := zc_pos kr27 rfl
        refine zr_ifnull (pc := 32) hV dX11_field_32 ?_
        show V 35 [some (ZR 0), some (ZI bits), some (ZI f), some (ZR r27)] [] 284 σ
        refine zr_aload_n (pc := 35) hV dX11_field_35 rfl rfl ?_
        refine zr_iload_n (pc := 36) hV dX11_field_36 rfl rfl ?_
        refine zr_callVp (pc := 37) hV [ZI f] (st := []) (c_X3_hasField (σ := σ) hσ r27 kr27 f (by omega)) dX11_field_37 mX11_137 (zc_k4 kr27) (zc_pos kr27 rfl) (by decide) (Nat.le_of_ble_eq_true rfl) (Nat.le_refl _) (fun r37 hr37 pr37 => ?_)
        refine zr_if_ne (pc := 40) hV 48 dX11_field_40 (by decide) (by omega) (fun c4 => ?_) (fun c4 => ?_)
        · show V 48 [some (ZR 0), some (ZI bits), some (ZI f), some (ZR r27)] [] 284 σ
          refine zr_aload_n (pc := 48) hV dX11_field_48 rfl rfl ?_
          refine zr_iload_n (pc := 49) hV dX11_field_49 rfl rfl ?_
          refine zr_iload_n (pc := 50) hV dX11_field_50 rfl rfl ?_
          refine zr_callVp (pc := 51) hV [ZI bits, ZI f] (st := []) (c_X3_fieldOf (σ := σ) hσ r27 kr27 bits f (by omega) (by omega)) dX11_field_51 mX11_140 (zc_k4 kr27) (zc_pos kr27 rfl) (by decide) (Nat.le_of_ble_eq_true rfl) (Nat.le_refl _) (fun r51 hr51 pr51 => ?_)
          show V 54 [some (ZR 0), some (ZI bits), some (ZI f), some (ZR r27)] [ZI r51] 284 σ
          exact zr_iret (pc := 54) hV dX11_field_54 rfl rfl ⟨rfl, _, rfl, (by omega), trivial⟩
        · show V 43 [some (ZR 0), some (ZI bits), some (ZI f), some (ZR r27)] [] 284 σ
          refine zr_bipush (pc := 43) hV (-4) dX11_field_43 (by decide) ?_
          refine zr_goto (pc := 45) hV 54 dX11_field_45 (by decide) ?_
          show V 54 [some (ZR 0), some (ZI bits), some (ZI f), some (ZR r27)] [ZI (-4)] 284 σ
          exact zr_iret (pc := 54) hV dX11_field_54 rfl rfl ⟨rfl, _, rfl, ⟨by decide, by decide⟩, trivial⟩
    · show V 20 [some (ZR 0), some (ZI bits), some (ZI f), none] [] 284 σ
      refine zr_iconst (pc := 20) hV (-1) dX11_field_20 rfl ?_
      exact zr_iret (pc := 21) hV dX11_field_21 rfl rfl ⟨rfl, _, rfl, ⟨by decide, by decide⟩, trivial⟩
set_option maxHeartbeats 800000 in
theorem c_X11_holes {σ : zq_S} (hσ : zc_T σ)   (Uσ : zc_U σ) : zq_C zc_w yX11_holes cX11_holes 1 (some .int) 2 42 284 284 [ZR 0] σ (zq_pp σ (fun r => True)) := by
  refine zq_C_of (by decide) (Nat.le_refl _) (Nat.le_of_ble_eq_true rfl) [some (ZR 0)] rfl (fun V hV => ?_)
  show V 0 [some (ZR 0)] [] 284 σ
  refine zr_aload_n (pc := 0) hV dX11_holes_0 rfl rfl ?_
  refine zr_getR (pc := 1) hV 1 3 dX11_holes_1 fX11_19 rfl rfl (zc_k0 zc_s0) (zc_pos zc_s0 rfl) (zc_g0_1 hσ zc_s0) (by decide) ?_
  refine zr_callVp (pc := 4) hV [] (st := []) (c_X9_countHoles (σ := σ) hσ) dX11_holes_4 mX11_144 (zc_k3 zc_s3) (zc_pos zc_s3 rfl) (by decide) (Nat.le_of_ble_eq_true rfl) (Nat.le_refl _) (fun r4 hr4 pr4 => ?_)
  exact zr_iret (pc := 7) hV dX11_holes_7 rfl rfl ⟨rfl, _, rfl, (by omega), trivial⟩
set_option maxHeartbeats 800000 in
theorem c_X11_hole {σ : zq_S} (hσ : zc_T σ) (from_ : Int) (q0 : zq_in from_) (Uσ : zc_U σ) : zq_C zc_w yX11_hole cX11_hole 2 (some .int) 2 42 284 284 [ZR 0, ZI from_] σ (zq_pp σ (fun r => True)) := by
  refine zq_C_of (by decide) (Nat.le_refl _) (Nat.le_of_ble_eq_true rfl) [some (ZR 0), some (ZI from_)] rfl (fun V hV => ?_)
  show V 0 [some (ZR 0), some (ZI from_)] [] 284 σ
  refine zr_aload_n (pc := 0) hV dX11_hole_0 rfl rfl ?_
  refine zr_getR (pc := 1) hV 1 3 dX11_hole_1 fX11_19 rfl rfl (zc_k0 zc_s0) (zc_pos zc_s0 rfl) (zc_g0_1 hσ zc_s0) (by decide) ?_
  refine zr_iload_n (pc := 4) hV dX11_hole_4 rfl rfl ?_
  refine zr_callVp (pc := 5) hV [ZI from_] (st := []) (c_X9_isBits (σ := σ) hσ from_ (by omega)) dX11_hole_5 mX11_127 (zc_k3 zc_s3) (zc_pos zc_s3 rfl) (by decide) (Nat.le_of_ble_eq_true rfl) (Nat.le_refl _) (fun r5 hr5 pr5 => ?_)
  refine zr_if_eq (pc := 8) hV 22 dX11_hole_8 (by decide) (by omega) (fun c1 => ?_) (fun c1 => ?_)
  · show V 22 [some (ZR 0), some (ZI from_)] [] 284 σ
    refine zr_iconst (pc := 22) hV (-1) dX11_hole_22 rfl ?_
    show V 23 [some (ZR 0), some (ZI from_)] [ZI (-1)] 284 σ
    exact zr_iret (pc := 23) hV dX11_hole_23 rfl rfl ⟨rfl, _, rfl, ⟨by decide, by decide⟩, trivial⟩
  · show V 11 [some (ZR 0), some (ZI from_)] [] 284 σ
    refine zr_aload_n (pc := 11) hV dX11_hole_11 rfl rfl ?_
    refine zr_getR (pc := 12) hV 1 3 dX11_hole_12 fX11_19 rfl rfl (zc_k0 zc_s0) (zc_pos zc_s0 rfl) (zc_g0_1 hσ zc_s0) (by decide) ?_
    refine zr_iload_n (pc := 15) hV dX11_hole_15 rfl rfl ?_
    refine zr_callVp (pc := 16) hV [ZI from_] (st := []) (c_X9_firstHole (σ := σ) hσ from_ (by omega)) dX11_hole_16 mX11_147 (zc_k3 zc_s3) (zc_pos zc_s3 rfl) (by decide) (Nat.le_of_ble_eq_true rfl) (Nat.le_refl _) (fun r16 hr16 pr16 => ?_)
    refine zr_goto (pc := 19) hV 23 dX11_hole_19 (by decide) ?_
    show V 23 [some (ZR 0), some (ZI from_)] [ZI r16] 284 σ
    exact zr_iret (pc := 23) hV dX11_hole_23 rfl rfl ⟨rfl, _, rfl, (by omega), trivial⟩
set_option maxHeartbeats 800000 in
theorem c_X11_count {σ : zq_S} (hσ : zc_T σ) (what : Int) (q0 : zq_in what) (Uσ : zc_U σ) : zq_C zc_w yX11_count cX11_count 2 (some .int) 1 20 284 284 [ZR 0, ZI what] σ (zq_pp σ (fun r => True)) := by
  refine zq_C_of (by decide) (Nat.le_refl _) (Nat.le_of_ble_eq_true rfl) [some (ZR 0), some (ZI what)] rfl (fun V hV => ?_)
  show V 0 [some (ZR 0), some (ZI what)] [] 284 σ
  refine zr_iload_n (pc := 0) hV dX11_count_0 rfl rfl ?_
  by_cases c1 : what = 0
  · refine zr_eqI (V := V) 0 c1 ?_
    refine zr_tableIn (pc := 1) hV 36 dX11_count_1 ⟨by decide, by decide⟩ (by decide) (by decide) rfl (by decide) ?_
    show V 36 [some (ZR 0), some (ZI what)] [] 284 σ
    refine zr_aload_n (pc := 36) hV dX11_count_36 rfl rfl ?_
    refine zr_getR (pc := 37) hV 1 3 dX11_count_37 fX11_19 rfl rfl (zc_k0 zc_s0) (zc_pos zc_s0 rfl) (zc_g0_1 hσ zc_s0) (by decide) ?_
    refine zr_getI (pc := 40) hV 3 dX11_count_40 fX11_150 rfl rfl (zc_k3 zc_s3) (zc_pos zc_s3 rfl) ?_
    have t2 := zc_g3_3 hσ zc_s3
    exact zr_iret (pc := 43) hV dX11_count_43 rfl rfl ⟨rfl, _, rfl, (by omega), trivial⟩
  by_cases c3 : what = 1
  · refine zr_eqI (V := V) 1 c3 ?_
    refine zr_tableIn (pc := 1) hV 44 dX11_count_1 ⟨by decide, by decide⟩ (by decide) (by decide) rfl (by decide) ?_
    show V 44 [some (ZR 0), some (ZI what)] [] 284 σ
    refine zr_aload_n (pc := 44) hV dX11_count_44 rfl rfl ?_
    refine zr_getR (pc := 45) hV 1 3 dX11_count_45 fX11_19 rfl rfl (zc_k0 zc_s0) (zc_pos zc_s0 rfl) (zc_g0_1 hσ zc_s0) (by decide) ?_
    refine zr_callVp (pc := 48) hV [] (st := []) (c_X9_registers (σ := σ) hσ) dX11_count_48 mX11_153 (zc_k3 zc_s3) (zc_pos zc_s3 rfl) (by decide) (Nat.le_of_ble_eq_true rfl) (Nat.le_refl _) (fun r48 hr48 pr48 => ?_)
    exact zr_iret (pc := 51) hV dX11_count_51 rfl rfl ⟨rfl, _, rfl, (by omega), trivial⟩
  by_cases c4 : what = 2
  · refine zr_eqI (V := V) 2 c4 ?_
    refine zr_tableIn (pc := 1) hV 52 dX11_count_1 ⟨by decide, by decide⟩ (by decide) (by decide) rfl (by decide) ?_
    show V 52 [some (ZR 0), some (ZI what)] [] 284 σ
    refine zr_aload_n (pc := 52) hV dX11_count_52 rfl rfl ?_
    refine zr_getR (pc := 53) hV 1 3 dX11_count_53 fX11_19 rfl rfl (zc_k0 zc_s0) (zc_pos zc_s0 rfl) (zc_g0_1 hσ zc_s0) (by decide) ?_
    refine zr_callVp (pc := 56) hV [] (st := []) (c_X9_wordMask (σ := σ) hσ) dX11_count_56 mX11_79 (zc_k3 zc_s3) (zc_pos zc_s3 rfl) (by decide) (Nat.le_of_ble_eq_true rfl) (Nat.le_refl _) (fun r56 hr56 pr56 => ?_)
    refine zr_iconst (pc := 59) hV 1 dX11_count_59 rfl ?_
    refine zr_iadd (pc := 60) hV dX11_count_60 ?_
    exact zr_iret (pc := 61) hV dX11_count_61 rfl rfl ⟨rfl, _, rfl, (by omega), trivial⟩
  by_cases c5 : what = 3
  · refine zr_eqI (V := V) 3 c5 ?_
    refine zr_tableIn (pc := 1) hV 62 dX11_count_1 ⟨by decide, by decide⟩ (by decide) (by decide) rfl (by decide) ?_
    show V 62 [some (ZR 0), some (ZI what)] [] 284 σ
    refine zr_aload_n (pc := 62) hV dX11_count_62 rfl rfl ?_
    refine zr_getR (pc := 63) hV 6 255 dX11_count_63 fX11_57 rfl rfl (zc_k0 zc_s0) (zc_pos zc_s0 rfl) (zc_g0_6 hσ zc_s0) (by decide) ?_
    refine zr_getI (pc := 66) hV 4 dX11_count_66 fX11_156 rfl rfl (zc_k255 zc_s255) (zc_pos zc_s255 rfl) ?_
    have t6 := zc_g255_4 hσ zc_s255
    exact zr_iret (pc := 69) hV dX11_count_69 rfl rfl ⟨rfl, _, rfl, (by omega), trivial⟩
  by_cases c7 : what = 4
  · refine zr_eqI (V := V) 4 c7 ?_
    refine zr_tableIn (pc := 1) hV 70 dX11_count_1 ⟨by decide, by decide⟩ (by decide) (by decide) rfl (by decide) ?_
    show V 70 [some (ZR 0), some (ZI what)] [] 284 σ
    refine zr_aload_n (pc := 70) hV dX11_count_70 rfl rfl ?_
    refine zr_getR (pc := 71) hV 5 140 dX11_count_71 fX11_48 rfl rfl (zc_k0 zc_s0) (zc_pos zc_s0 rfl) (zc_g0_5 hσ zc_s0) (by decide) ?_
    refine zr_getI (pc := 74) hV 12 dX11_count_74 fX11_159 rfl rfl (zc_k140 zc_s140) (zc_pos zc_s140 rfl) ?_
    have t8 := zc_g140_12 hσ zc_s140
    exact zr_iret (pc := 77) hV dX11_count_77 rfl rfl ⟨rfl, _, rfl, (by omega), trivial⟩
  refine zr_tableOut (pc := 1) hV 78 dX11_count_1 (by omega) (by omega) (by decide) ?_
  show V 78 [some (ZR 0), some (ZI what)] [] 284 σ
  refine zr_iconst (pc := 78) hV (-1) dX11_count_78 rfl ?_
  exact zr_iret (pc := 79) hV dX11_count_79 rfl rfl ⟨rfl, _, rfl, ⟨by decide, by decide⟩, trivial⟩
set_option maxHeartbeats 800000 in
theorem c_X11_put {σ : zq_S} (hσ : zc_T σ) (place : Int) (bits : Int) (q0 : zq_in place) (q1 : zq_in bits) (Uσ : zc_U σ) : zq_C zc_w yX11_put cX11_put 4 (some .int) 2 41 284 284 [ZR 0, ZI place, ZI bits] σ (zq_pi (fun r τ => zc_T τ ∧ zc_Fr [(139, -1)] σ τ ∧ (True) ∧ zc_U τ)) := by
  refine zq_C_of (by decide) (Nat.le_refl _) (Nat.le_of_ble_eq_true rfl) [some (ZR 0), some (ZI place), some (ZI bits), none] rfl (fun V hV => ?_)
  have hFσ := zc_Fr_rf [(139, -1)] σ
  show V 0 [some (ZR 0), some (ZI place), some (ZI bits), none] [] 284 σ
  refine zr_iload_n (pc := 0) hV dX11_put_0 rfl rfl ?_
  refine zr_callSp (pc := 1) hV [ZI place] (st := []) (c_X11_isPlace (σ := σ) place (by omega)) dX11_put_1 mX11_173 (by decide) (Nat.le_of_ble_eq_true rfl) (Nat.le_refl _) (fun r1 hr1 pr1 => ?_)
  refine zr_if_eq (pc := 4) hV 18 dX11_put_4 (by decide) (by omega) (fun c1 => ?_) (fun c1 => ?_)
  · show V 18 [some (ZR 0), some (ZI place), some (ZI bits), none] [] 284 σ
    refine zr_iconst (pc := 18) hV (-1) dX11_put_18 rfl ?_
    exact zr_iret (pc := 19) hV dX11_put_19 rfl rfl ⟨_, rfl, ⟨by decide, by decide⟩, hσ, hFσ, trivial, Uσ⟩
  · show V 7 [some (ZR 0), some (ZI place), some (ZI bits), none] [] 284 σ
    refine zr_aload_n (pc := 7) hV dX11_put_7 rfl rfl ?_
    refine zr_getR (pc := 8) hV 1 3 dX11_put_8 fX11_19 rfl rfl (zc_k0 zc_s0) (zc_pos zc_s0 rfl) (zc_g0_1 hσ zc_s0) (by decide) ?_
    refine zr_iload_n (pc := 11) hV dX11_put_11 rfl rfl ?_
    refine zr_callVp (pc := 12) hV [ZI bits] (st := []) (c_X9_isBits (σ := σ) hσ bits (by omega)) dX11_put_12 mX11_127 (zc_k3 zc_s3) (zc_pos zc_s3 rfl) (by decide) (Nat.le_of_ble_eq_true rfl) (Nat.le_refl _) (fun r12 hr12 pr12 => ?_)
    refine zr_if_ne (pc := 15) hV 20 dX11_put_15 (by decide) (by omega) (fun c2 => ?_) (fun c2 => ?_)
    · show V 20 [some (ZR 0), some (ZI place), some (ZI bits), none] [] 284 σ
      refine zr_aload_n (pc := 20) hV dX11_put_20 rfl rfl ?_
      refine zr_getR (pc := 21) hV 4 139 dX11_put_21 fX11_39 rfl rfl (zc_k0 zc_s0) (zc_pos zc_s0 rfl) (zc_g0_4 hσ zc_s0) (by decide) ?_
      refine zr_iload_n (pc := 24) hV dX11_put_24 rfl rfl ?_
      refine zr_iald (pc := 25) hV dX11_put_25 (zc_k139 zc_s139) (zc_pos zc_s139 rfl) rfl (by omega) ?_
      have t3 := zc_ga139 hσ zc_s139 place
      refine zr_istore_n (pc := 26) hV [some (ZR 0), some (ZI place), some (ZI bits), some (ZI (σ 139 place))] dX11_put_26 rfl (by decide) rfl rfl ?_
      refine zr_aload_n (pc := 27) hV dX11_put_27 rfl rfl ?_
      refine zr_getR (pc := 28) hV 4 139 dX11_put_28 fX11_39 rfl rfl (zc_k0 zc_s0) (zc_pos zc_s0 rfl) (zc_g0_4 hσ zc_s0) (by decide) ?_
      refine zr_iload_n (pc := 31) hV dX11_put_31 rfl rfl ?_
      refine zr_iload_n (pc := 32) hV dX11_put_32 rfl rfl ?_
      refine zr_iast (pc := 33) hV dX11_put_33 (zc_k139 zc_s139) (zc_pos zc_s139 rfl) rfl (by omega) (fun σ33 eσ33 => ?_)
      have hσ33 : zc_T σ33 := zc_ua139 eσ33 hσ zc_s139 (by omega)
      have hFσ33 := zc_Fa eσ33 zc_s139 rfl hFσ
      have Uσ33 : zc_U σ33 := zc_U_fr (zc_Fa eσ33 zc_s139 rfl (zc_Fr_rf [(139, -1)] _)) rfl hσ Uσ
      refine zr_iload_n (pc := 34) hV dX11_put_34 rfl rfl ?_
      exact zr_iret (pc := 35) hV dX11_put_35 rfl rfl ⟨_, rfl, (by omega), hσ33, hFσ33, trivial, Uσ33⟩
    · show V 18 [some (ZR 0), some (ZI place), some (ZI bits), none] [] 284 σ
      refine zr_iconst (pc := 18) hV (-1) dX11_put_18 rfl ?_
      exact zr_iret (pc := 19) hV dX11_put_19 rfl rfl ⟨_, rfl, ⟨by decide, by decide⟩, hσ, hFσ, trivial, Uσ⟩
set_option maxHeartbeats 800000 in
theorem c_X11_code {σ : zq_S} (hσ : zc_T σ) (place : Int) (q0 : zq_in place) (Uσ : zc_U σ) : zq_C zc_w yX11_code cX11_code 2 (some .int) 1 20 284 284 [ZR 0, ZI place] σ (zq_pp σ (fun r => True)) := by
  refine zq_C_of (by decide) (Nat.le_refl _) (Nat.le_of_ble_eq_true rfl) [some (ZR 0), some (ZI place)] rfl (fun V hV => ?_)
  show V 0 [some (ZR 0), some (ZI place)] [] 284 σ
  refine zr_iload_n (pc := 0) hV dX11_code_0 rfl rfl ?_
  refine zr_callSp (pc := 1) hV [ZI place] (st := []) (c_X11_isPlace (σ := σ) place (by omega)) dX11_code_1 mX11_173 (by decide) (Nat.le_of_ble_eq_true rfl) (Nat.le_refl _) (fun r1 hr1 pr1 => ?_)
  refine zr_if_eq (pc := 4) hV 16 dX11_code_4 (by decide) (by omega) (fun c1 => ?_) (fun c1 => ?_)
  · show V 16 [some (ZR 0), some (ZI place)] [] 284 σ
    refine zr_iconst (pc := 16) hV (-1) dX11_code_16 rfl ?_
    show V 17 [some (ZR 0), some (ZI place)] [ZI (-1)] 284 σ
    exact zr_iret (pc := 17) hV dX11_code_17 rfl rfl ⟨rfl, _, rfl, ⟨by decide, by decide⟩, trivial⟩
  · show V 7 [some (ZR 0), some (ZI place)] [] 284 σ
    refine zr_aload_n (pc := 7) hV dX11_code_7 rfl rfl ?_
    refine zr_getR (pc := 8) hV 4 139 dX11_code_8 fX11_39 rfl rfl (zc_k0 zc_s0) (zc_pos zc_s0 rfl) (zc_g0_4 hσ zc_s0) (by decide) ?_
    refine zr_iload_n (pc := 11) hV dX11_code_11 rfl rfl ?_
    refine zr_iald (pc := 12) hV dX11_code_12 (zc_k139 zc_s139) (zc_pos zc_s139 rfl) rfl (by omega) ?_
    have t2 := zc_ga139 hσ zc_s139 place
    refine zr_goto (pc := 13) hV 17 dX11_code_13 (by decide) ?_
    show V 17 [some (ZR 0), some (ZI place)] [ZI (σ 139 place)] 284 σ
    exact zr_iret (pc := 17) hV dX11_code_17 rfl rfl ⟨rfl, _, rfl, (by omega), trivial⟩
set_option maxHeartbeats 800000 in
theorem c_X11_get {σ : zq_S} (hσ : zc_T σ) (what : Int) (i : Int) (q0 : zq_in what) (q1 : zq_in i) (Uσ : zc_U σ) : zq_C zc_w yX11_get cX11_get 3 (some .int) 1 22 284 284 [ZR 0, ZI what, ZI i] σ (zq_pp σ (fun r => (0 ≤ what ∧ what ≤ 3 ∨ r = -1))) := by
  refine zq_C_of (by decide) (Nat.le_refl _) (Nat.le_of_ble_eq_true rfl) [some (ZR 0), some (ZI what), some (ZI i)] rfl (fun V hV => ?_)
  show V 0 [some (ZR 0), some (ZI what), some (ZI i)] [] 284 σ
  refine zr_iload_n (pc := 0) hV dX11_get_0 rfl rfl ?_
  have J23 : V 23 [some (ZR 0), some (ZI what), some (ZI i)] [] 284 σ := by
    show V 23 [some (ZR 0), some (ZI what), some (ZI i)] [] 284 σ
    refine zr_iload_n (pc := 23) hV dX11_get_23 rfl rfl ?_
    refine zr_iconst (pc := 24) hV 1 dX11_get_24 rfl ?_
    refine zr_icmp_ne (pc := 25) hV 45 dX11_get_25 (by decide) (by omega) ⟨by decide, by decide⟩ (fun c1 => ?_) (fun c1 => ?_)
    · show V 45 [some (ZR 0), some (ZI what), some (ZI i)] [] 284 σ
      refine zr_iload_n (pc := 45) hV dX11_get_45 rfl rfl ?_
      refine zr_iconst (pc := 46) hV 0 dX11_get_46 rfl ?_
      refine zr_iconst (pc := 47) hV 3 dX11_get_47 rfl ?_
      refine zr_callSp (pc := 48) hV [ZI what, ZI 0, ZI 3] (st := []) (c_X11_within (σ := σ) what 0 3 (by omega) (by omega) (by omega)) dX11_get_48 mX11_89 (by decide) (Nat.le_of_ble_eq_true rfl) (Nat.le_refl _) (fun r48 hr48 pr48 => ?_)
      refine zr_if_eq (pc := 51) hV 69 dX11_get_51 (by decide) (by omega) (fun c2 => ?_) (fun c2 => ?_)
      · show V 69 [some (ZR 0), some (ZI what), some (ZI i)] [] 284 σ
        refine zr_iconst (pc := 69) hV (-1) dX11_get_69 rfl ?_
        show V 70 [some (ZR 0), some (ZI what), some (ZI i)] [ZI (-1)] 284 σ
        exact zr_iret (pc := 70) hV dX11_get_70 rfl rfl ⟨rfl, _, rfl, ⟨by decide, by decide⟩, (by omega)⟩
      · show V 54 [some (ZR 0), some (ZI what), some (ZI i)] [] 284 σ
        refine zr_aload_n (pc := 54) hV dX11_get_54 rfl rfl ?_
        refine zr_getR (pc := 55) hV 5 140 dX11_get_55 fX11_48 rfl rfl (zc_k0 zc_s0) (zc_pos zc_s0 rfl) (zc_g0_5 hσ zc_s0) (by decide) ?_
        refine zr_getR (pc := 58) hV 2 141 dX11_get_58 fX11_179 rfl rfl (zc_k140 zc_s140) (zc_pos zc_s140 rfl) (zc_g140_2 hσ zc_s140) (by decide) ?_
        refine zr_iload_n (pc := 61) hV dX11_get_61 rfl rfl ?_
        refine zr_iload_n (pc := 62) hV dX11_get_62 rfl rfl ?_
        refine zr_callVp (pc := 63) hV [ZI what, ZI i] (st := []) (c_X10_held (σ := σ) hσ what i (by omega) (by omega)) dX11_get_63 mX11_191 (zc_k141 zc_s141) (zc_pos zc_s141 rfl) (by decide) (Nat.le_of_ble_eq_true rfl) (Nat.le_refl _) (fun r63 hr63 pr63 => ?_)
        refine zr_goto (pc := 66) hV 70 dX11_get_66 (by decide) ?_
        show V 70 [some (ZR 0), some (ZI what), some (ZI i)] [ZI r63] 284 σ
        exact zr_iret (pc := 70) hV dX11_get_70 rfl rfl ⟨rfl, _, rfl, (by omega), (by omega)⟩
    · show V 28 [some (ZR 0), some (ZI what), some (ZI i)] [] 284 σ
      refine zr_iload_n (pc := 28) hV dX11_get_28 rfl rfl ?_
      refine zr_iconst (pc := 29) hV 0 dX11_get_29 rfl ?_
      refine zr_aload_n (pc := 30) hV dX11_get_30 rfl rfl ?_
      refine zr_getR (pc := 31) hV 1 3 dX11_get_31 fX11_19 rfl rfl (zc_k0 zc_s0) (zc_pos zc_s0 rfl) (zc_g0_1 hσ zc_s0) (by decide) ?_
      refine zr_callVp (pc := 34) hV [] (st := [ZI 0, ZI i]) (c_X9_wordMask (σ := σ) hσ) dX11_get_34 mX11_79 (zc_k3 zc_s3) (zc_pos zc_s3 rfl) (by decide) (Nat.le_of_ble_eq_true rfl) (Nat.le_refl _) (fun r34 hr34 pr34 => ?_)
      refine zr_callSp (pc := 37) hV [ZI i, ZI 0, ZI r34] (st := []) (c_X11_within (σ := σ) i 0 r34 (by omega) (by omega) (by omega)) dX11_get_37 mX11_89 (by decide) (Nat.le_of_ble_eq_true rfl) (Nat.le_refl _) (fun r37 hr37 pr37 => ?_)
      refine zr_if_ne (pc := 40) hV 45 dX11_get_40 (by decide) (by omega) (fun c3 => ?_) (fun c3 => ?_)
      · show V 45 [some (ZR 0), some (ZI what), some (ZI i)] [] 284 σ
        refine zr_iload_n (pc := 45) hV dX11_get_45 rfl rfl ?_
        refine zr_iconst (pc := 46) hV 0 dX11_get_46 rfl ?_
        refine zr_iconst (pc := 47) hV 3 dX11_get_47 rfl ?_
        refine zr_callSp (pc := 48) hV [ZI what, ZI 0, ZI 3] (st := []) (c_X11_within (σ := σ) what 0 3 (by omega) (by omega) (by omega)) dX11_get_48 mX11_89 (by decide) (Nat.le_of_ble_eq_true rfl) (Nat.le_refl _) (fun r48 hr48 pr48 => ?_)
        refine zr_if_eq (pc := 51) hV 69 dX11_get_51 (by decide) (by omega) (fun c4 => ?_) (fun c4 => ?_)
        · show V 69 [some (ZR 0), some (ZI what), some (ZI i)] [] 284 σ
          refine zr_iconst (pc := 69) hV (-1) dX11_get_69 rfl ?_
          show V 70 [some (ZR 0), some (ZI what), some (ZI i)] [ZI (-1)] 284 σ
          exact zr_iret (pc := 70) hV dX11_get_70 rfl rfl ⟨rfl, _, rfl, ⟨by decide, by decide⟩, (by omega)⟩
        · show V 54 [some (ZR 0), some (ZI what), some (ZI i)] [] 284 σ
          refine zr_aload_n (pc := 54) hV dX11_get_54 rfl rfl ?_
          refine zr_getR (pc := 55) hV 5 140 dX11_get_55 fX11_48 rfl rfl (zc_k0 zc_s0) (zc_pos zc_s0 rfl) (zc_g0_5 hσ zc_s0) (by decide) ?_
          refine zr_getR (pc := 58) hV 2 141 dX11_get_58 fX11_179 rfl rfl (zc_k140 zc_s140) (zc_pos zc_s140 rfl) (zc_g140_2 hσ zc_s140) (by decide) ?_
          refine zr_iload_n (pc := 61) hV dX11_get_61 rfl rfl ?_
          refine zr_iload_n (pc := 62) hV dX11_get_62 rfl rfl ?_
          refine zr_callVp (pc := 63) hV [ZI what, ZI i] (st := []) (c_X10_held (σ := σ) hσ what i (by omega) (by omega)) dX11_get_63 mX11_191 (zc_k141 zc_s141) (zc_pos zc_s141 rfl) (by decide) (Nat.le_of_ble_eq_true rfl) (Nat.le_refl _) (fun r63 hr63 pr63 => ?_)
          refine zr_goto (pc := 66) hV 70 dX11_get_66 (by decide) ?_
          show V 70 [some (ZR 0), some (ZI what), some (ZI i)] [ZI r63] 284 σ
          exact zr_iret (pc := 70) hV dX11_get_70 rfl rfl ⟨rfl, _, rfl, (by omega), (by omega)⟩
      · show V 43 [some (ZR 0), some (ZI what), some (ZI i)] [] 284 σ
        refine zr_iconst (pc := 43) hV (-1) dX11_get_43 rfl ?_
        exact zr_iret (pc := 44) hV dX11_get_44 rfl rfl ⟨rfl, _, rfl, ⟨by decide, by decide⟩, (by omega)⟩
  refine zr_if_ne (pc := 1) hV 23 dX11_get_1 (by decide) (by omega) (fun c5 => ?_) (fun c5 => ?_)
  · exact J23
  · show V 4 [some (ZR 0), some (ZI what), some (ZI i)] [] 284 σ
    refine zr_iload_n (pc := 4) hV dX11_get_4 rfl rfl ?_
    refine zr_iconst (pc := 5) hV 0 dX11_get_5 rfl ?_
    refine zr_aload_n (pc := 6) hV dX11_get_6 rfl rfl ?_
    refine zr_getR (pc := 7) hV 1 3 dX11_get_7 fX11_19 rfl rfl (zc_k0 zc_s0) (zc_pos zc_s0 rfl) (zc_g0_1 hσ zc_s0) (by decide) ?_
    refine zr_callVp (pc := 10) hV [] (st := [ZI 0, ZI i]) (c_X9_registers (σ := σ) hσ) dX11_get_10 mX11_153 (zc_k3 zc_s3) (zc_pos zc_s3 rfl) (by decide) (Nat.le_of_ble_eq_true rfl) (Nat.le_refl _) (fun r10 hr10 pr10 => ?_)
    refine zr_iconst (pc := 13) hV 1 dX11_get_13 rfl ?_
    refine zr_isub (pc := 14) hV dX11_get_14 ?_
    refine zr_callSp (pc := 15) hV [ZI i, ZI 0, ZI (r10 - 1)] (st := []) (c_X11_within (σ := σ) i 0 (r10 - 1) (by omega) (by omega) (by omega)) dX11_get_15 mX11_89 (by decide) (Nat.le_of_ble_eq_true rfl) (Nat.le_refl _) (fun r15 hr15 pr15 => ?_)
    refine zr_if_ne (pc := 18) hV 23 dX11_get_18 (by decide) (by omega) (fun c6 => ?_) (fun c6 => ?_)
    · exact J23
    · show V 21 [some (ZR 0), some (ZI what), some (ZI i)] [] 284 σ
      refine zr_iconst (pc := 21) hV (-1) dX11_get_21 rfl ?_
      exact zr_iret (pc := 22) hV dX11_get_22 rfl rfl ⟨rfl, _, rfl, ⟨by decide, by decide⟩, (by omega)⟩
set_option maxHeartbeats 800000 in
theorem c_X11_set {σ : zq_S} (hσ : zc_T σ) (what : Int) (i : Int) (v : Int) (q0 : zq_in what) (q1 : zq_in i) (q2 : zq_in v) (Uσ : zc_U σ) : zq_C zc_w yX11_set cX11_set 5 (some .int) 3 63 284 284 [ZR 0, ZI what, ZI i, ZI v] σ (zq_pi (fun r τ => zc_T τ ∧ zc_Fr [(140, 5), (140, 13), (140, 14), (141, 3), (141, 4), (142, -1), (143, -1)] σ τ ∧ (True) ∧ zc_U τ)) := by
  refine zq_C_of (by decide) (Nat.le_refl _) (Nat.le_of_ble_eq_true rfl) [some (ZR 0), some (ZI what), some (ZI i), some (ZI v), none] rfl (fun V hV => ?_)
  have hFσ := zc_Fr_rf [(140, 5), (140, 13), (140, 14), (141, 3), (141, 4), (142, -1), (143, -1)] σ
  show V 0 [some (ZR 0), some (ZI what), some (ZI i), some (ZI v), none] [] 284 σ
  refine zr_aload_n (pc := 0) hV dX11_set_0 rfl rfl ?_
  refine zr_iload_n (pc := 1) hV dX11_set_1 rfl rfl ?_
  refine zr_iload_n (pc := 2) hV dX11_set_2 rfl rfl ?_
  refine zr_callVp (pc := 3) hV [ZI what, ZI i] (st := []) (c_X11_get (σ := σ) hσ what i (by omega) (by omega) Uσ) dX11_set_3 mX11_176 (zc_k0 zc_s0) (zc_pos zc_s0 rfl) (by decide) (Nat.le_of_ble_eq_true rfl) (Nat.le_refl _) (fun r3 hr3 pr3 => ?_)
  refine zr_istore (pc := 6) hV [some (ZR 0), some (ZI what), some (ZI i), some (ZI v), some (ZI r3)] dX11_set_6 (by decide) rfl rfl ?_
  refine zr_iload (pc := 8) hV dX11_set_8 rfl ?_
  refine zr_if_lt (pc := 10) hV 32 dX11_set_10 (by decide) (by omega) (fun c1 => ?_) (fun c1 => ?_)
  · show V 32 [some (ZR 0), some (ZI what), some (ZI i), some (ZI v), some (ZI r3)] [] 284 σ
    refine zr_iconst (pc := 32) hV (-1) dX11_set_32 rfl ?_
    exact zr_iret (pc := 33) hV dX11_set_33 rfl rfl ⟨_, rfl, ⟨by decide, by decide⟩, hσ, hFσ, trivial, Uσ⟩
  · show V 13 [some (ZR 0), some (ZI what), some (ZI i), some (ZI v), some (ZI r3)] [] 284 σ
    refine zr_iload_n (pc := 13) hV dX11_set_13 rfl rfl ?_
    refine zr_if_lt (pc := 14) hV 32 dX11_set_14 (by decide) (by omega) (fun c2 => ?_) (fun c2 => ?_)
    · show V 32 [some (ZR 0), some (ZI what), some (ZI i), some (ZI v), some (ZI r3)] [] 284 σ
      refine zr_iconst (pc := 32) hV (-1) dX11_set_32 rfl ?_
      exact zr_iret (pc := 33) hV dX11_set_33 rfl rfl ⟨_, rfl, ⟨by decide, by decide⟩, hσ, hFσ, trivial, Uσ⟩
    · show V 17 [some (ZR 0), some (ZI what), some (ZI i), some (ZI v), some (ZI r3)] [] 284 σ
      refine zr_iload_n (pc := 17) hV dX11_set_17 rfl rfl ?_
      refine zr_aload_n (pc := 18) hV dX11_set_18 rfl rfl ?_
      refine zr_getR (pc := 19) hV 5 140 dX11_set_19 fX11_48 rfl rfl (zc_k0 zc_s0) (zc_pos zc_s0 rfl) (zc_g0_5 hσ zc_s0) (by decide) ?_
      refine zr_getR (pc := 22) hV 2 141 dX11_set_22 fX11_179 rfl rfl (zc_k140 zc_s140) (zc_pos zc_s140 rfl) (zc_g140_2 hσ zc_s140) (by decide) ?_
      refine zr_iload_n (pc := 25) hV dX11_set_25 rfl rfl ?_
      refine zr_callVp (pc := 26) hV [ZI what] (st := [ZI v]) (c_X10_mostOf (σ := σ) hσ what (by omega)) dX11_set_26 mX11_183 (zc_k141 zc_s141) (zc_pos zc_s141 rfl) (by decide) (Nat.le_of_ble_eq_true rfl) (Nat.le_refl _) (fun r26 hr26 pr26 => ?_)
      refine zr_icmp_le (pc := 29) hV 34 dX11_set_29 (by decide) (by omega) (by omega) (fun c3 => ?_) (fun c3 => ?_)
      · show V 34 [some (ZR 0), some (ZI what), some (ZI i), some (ZI v), some (ZI r3)] [] 284 σ
        refine zr_aload_n (pc := 34) hV dX11_set_34 rfl rfl ?_
        refine zr_getR (pc := 35) hV 5 140 dX11_set_35 fX11_48 rfl rfl (zc_k0 zc_s0) (zc_pos zc_s0 rfl) (zc_g0_5 hσ zc_s0) (by decide) ?_
        refine zr_iload_n (pc := 38) hV dX11_set_38 rfl rfl ?_
        refine zr_iload_n (pc := 39) hV dX11_set_39 rfl rfl ?_
        refine zr_iload_n (pc := 40) hV dX11_set_40 rfl rfl ?_
        refine zr_callVv (pc := 41) hV [ZI what, ZI i, ZI v] (st := []) (c_X6_change (σ := σ) hσ what i v (by omega) (by omega) (by omega)) dX11_set_41 mX11_188 (zc_k140 zc_s140) (zc_pos zc_s140 rfl) (by decide) (Nat.le_of_ble_eq_true rfl) (Nat.le_refl _) (fun σ41 pσ41 => ?_)
        obtain ⟨hσ41, hfσ41, pσ41⟩ := pσ41
        have hFσ41 := zc_Fc hfσ41 rfl hFσ
        have Uσ41 : zc_U σ41 := zc_U_fr hfσ41 rfl hσ Uσ
        refine zr_iload (pc := 44) hV dX11_set_44 rfl ?_
        exact zr_iret (pc := 46) hV dX11_set_46 rfl rfl ⟨_, rfl, (by omega), hσ41, hFσ41, trivial, Uσ41⟩
      · show V 32 [some (ZR 0), some (ZI what), some (ZI i), some (ZI v), some (ZI r3)] [] 284 σ
        refine zr_iconst (pc := 32) hV (-1) dX11_set_32 rfl ?_
        exact zr_iret (pc := 33) hV dX11_set_33 rfl rfl ⟨_, rfl, ⟨by decide, by decide⟩, hσ, hFσ, trivial, Uσ⟩
set_option maxHeartbeats 800000 in
theorem c_X11_reset {σ : zq_S} (hσ : zc_T σ)   (Uσ : zc_U σ) : zq_C zc_w yX11_reset cX11_reset 1 (some .int) 3 64 284 284 [ZR 0] σ (zq_pi (fun r τ => zc_T τ ∧ zc_Fr [(140, 5), (140, 8), (140, 9), (140, 10), (140, 11), (140, 13), (140, 14), (141, 3), (141, 4), (142, -1), (143, -1), (254, -1)] σ τ ∧ (r = 1) ∧ zc_U τ)) := by
  refine zq_C_of (by decide) (Nat.le_refl _) (Nat.le_of_ble_eq_true rfl) [some (ZR 0)] rfl (fun V hV => ?_)
  have hFσ := zc_Fr_rf [(140, 5), (140, 8), (140, 9), (140, 10), (140, 11), (140, 13), (140, 14), (141, 3), (141, 4), (142, -1), (143, -1), (254, -1)] σ
  show V 0 [some (ZR 0)] [] 284 σ
  refine zr_aload_n (pc := 0) hV dX11_reset_0 rfl rfl ?_
  refine zr_getR (pc := 1) hV 5 140 dX11_reset_1 fX11_48 rfl rfl (zc_k0 zc_s0) (zc_pos zc_s0 rfl) (zc_g0_5 hσ zc_s0) (by decide) ?_
  refine zr_callVv (pc := 4) hV [] (st := []) (c_X6_clear (σ := σ) hσ) dX11_reset_4 mX11_194 (zc_k140 zc_s140) (zc_pos zc_s140 rfl) (by decide) (Nat.le_of_ble_eq_true rfl) (Nat.le_refl _) (fun σ4 pσ4 => ?_)
  obtain ⟨hσ4, hfσ4, pσ4⟩ := pσ4
  have hFσ4 := zc_Fc hfσ4 rfl hFσ
  have Uσ4 : zc_U σ4 := zc_U_fr hfσ4 rfl hσ Uσ
  refine zr_iconst (pc := 7) hV 1 dX11_reset_7 rfl ?_
  exact zr_iret (pc := 8) hV dX11_reset_8 rfl rfl ⟨_, rfl, ⟨by decide, by decide⟩, hσ4, hFσ4, (by omega), Uσ4⟩
set_option maxHeartbeats 800000 in
theorem c_X11_run {σ : zq_S} (hσ : zc_T σ) (n : Int) (q0 : zq_in n) (Uσ : zc_U σ) : zq_C zc_w yX11_run cX11_run 3 (some .int) 7 156 284 284 [ZR 0, ZI n] σ (zq_pi (fun r τ => zc_T τ ∧ zc_Fr [(140, 5), (140, 6), (140, 8), (140, 9), (140, 10), (140, 11), (140, 13), (140, 14), (141, 3), (141, 4), (141, 6), (142, -1), (143, -1), (144, -1), (145, -1), (146, -1), (154, -1), (254, -1)] σ τ ∧ (True) ∧ zc_U τ)) := by
  refine zq_C_of (by decide) (Nat.le_refl _) (Nat.le_of_ble_eq_true rfl) [some (ZR 0), some (ZI n), none] rfl (fun V hV => ?_)
  have hFσ := zc_Fr_rf [(140, 5), (140, 6), (140, 8), (140, 9), (140, 10), (140, 11), (140, 13), (140, 14), (141, 3), (141, 4), (141, 6), (142, -1), (143, -1), (144, -1), (145, -1), (146, -1), (154, -1), (254, -1)] σ
  show V 0 [some (ZR 0), some (ZI n), none] [] 284 σ
  refine zr_iload_n (pc := 0) hV dX11_run_0 rfl rfl ?_
  refine zr_iconst (pc := 1) hV 1 dX11_run_1 rfl ?_
  refine zr_sipush (pc := 2) hV 2000 dX11_run_2 (by decide) ?_
  refine zr_callSp (pc := 5) hV [ZI n, ZI 1, ZI 2000] (st := []) (c_X11_within (σ := σ) n 1 2000 (by omega) (by omega) (by omega)) dX11_run_5 mX11_89 (by decide) (Nat.le_of_ble_eq_true rfl) (Nat.le_refl _) (fun r5 hr5 pr5 => ?_)
  refine zr_if_ne (pc := 8) hV 13 dX11_run_8 (by decide) (by omega) (fun c1 => ?_) (fun c1 => ?_)
  · show V 13 [some (ZR 0), some (ZI n), none] [] 284 σ
    refine zr_aload_n (pc := 13) hV dX11_run_13 rfl rfl ?_
    refine zr_getR (pc := 14) hV 5 140 dX11_run_14 fX11_48 rfl rfl (zc_k0 zc_s0) (zc_pos zc_s0 rfl) (zc_g0_5 hσ zc_s0) (by decide) ?_
    refine zr_iload_n (pc := 17) hV dX11_run_17 rfl rfl ?_
    refine zr_callVi (pc := 18) hV [ZI n] (st := []) (c_X6_goOn (σ := σ) hσ n (by omega)) dX11_run_18 mX11_197 (zc_k140 zc_s140) (zc_pos zc_s140 rfl) (by decide) (Nat.le_of_ble_eq_true rfl) (Nat.le_refl _) (fun r18 σ18 hr18 pσ18 => ?_)
    obtain ⟨hσ18, hfσ18, pσ18⟩ := pσ18
    have hFσ18 := zc_Fc hfσ18 rfl hFσ
    have Uσ18 : zc_U σ18 := zc_U_fr hfσ18 rfl hσ Uσ
    refine zr_istore_n (pc := 21) hV [some (ZR 0), some (ZI n), some (ZI r18)] dX11_run_21 rfl (by decide) rfl rfl ?_
    refine zr_iload_n (pc := 22) hV dX11_run_22 rfl rfl ?_
    refine zr_if_ne (pc := 23) hV 31 dX11_run_23 (by decide) (by omega) (fun c2 => ?_) (fun c2 => ?_)
    · show V 31 [some (ZR 0), some (ZI n), some (ZI r18)] [] 284 σ18
      refine zr_iload_n (pc := 31) hV dX11_run_31 rfl rfl ?_
      show V 32 [some (ZR 0), some (ZI n), some (ZI r18)] [ZI r18] 284 σ18
      exact zr_iret (pc := 32) hV dX11_run_32 rfl rfl ⟨_, rfl, (by omega), hσ18, hFσ18, trivial, Uσ18⟩
    · show V 26 [some (ZR 0), some (ZI n), some (ZI r18)] [] 284 σ18
      refine zr_bipush (pc := 26) hV (-5) dX11_run_26 (by decide) ?_
      refine zr_goto (pc := 28) hV 32 dX11_run_28 (by decide) ?_
      show V 32 [some (ZR 0), some (ZI n), some (ZI r18)] [ZI (-5)] 284 σ18
      exact zr_iret (pc := 32) hV dX11_run_32 rfl rfl ⟨_, rfl, ⟨by decide, by decide⟩, hσ18, hFσ18, trivial, Uσ18⟩
  · show V 11 [some (ZR 0), some (ZI n), none] [] 284 σ
    refine zr_iconst (pc := 11) hV (-1) dX11_run_11 rfl ?_
    exact zr_iret (pc := 12) hV dX11_run_12 rfl rfl ⟨_, rfl, ⟨by decide, by decide⟩, hσ, hFσ, trivial, Uσ⟩
set_option maxHeartbeats 800000 in
theorem c_X11_back {σ : zq_S} (hσ : zc_T σ) (n : Int) (q0 : zq_in n) (Uσ : zc_U σ) : zq_C zc_w yX11_back cX11_back 2 (some .int) 3 66 284 284 [ZR 0, ZI n] σ (zq_pi (fun r τ => zc_T τ ∧ zc_Fr [(140, 5), (140, 6), (140, 8), (140, 9), (140, 10), (140, 11), (140, 13), (140, 14), (141, 3), (141, 4), (142, -1), (143, -1), (254, -1)] σ τ ∧ (True) ∧ zc_U τ)) := by
  refine zq_C_of (by decide) (Nat.le_refl _) (Nat.le_of_ble_eq_true rfl) [some (ZR 0), some (ZI n)] rfl (fun V hV => ?_)
  have hFσ := zc_Fr_rf [(140, 5), (140, 6), (140, 8), (140, 9), (140, 10), (140, 11), (140, 13), (140, 14), (141, 3), (141, 4), (142, -1), (143, -1), (254, -1)] σ
  show V 0 [some (ZR 0), some (ZI n)] [] 284 σ
  refine zr_iload_n (pc := 0) hV dX11_back_0 rfl rfl ?_
  refine zr_iconst (pc := 1) hV 1 dX11_back_1 rfl ?_
  refine zr_bipush (pc := 2) hV 100 dX11_back_2 (by decide) ?_
  refine zr_callSp (pc := 4) hV [ZI n, ZI 1, ZI 100] (st := []) (c_X11_within (σ := σ) n 1 100 (by omega) (by omega) (by omega)) dX11_back_4 mX11_89 (by decide) (Nat.le_of_ble_eq_true rfl) (Nat.le_refl _) (fun r4 hr4 pr4 => ?_)
  refine zr_if_eq (pc := 7) hV 21 dX11_back_7 (by decide) (by omega) (fun c1 => ?_) (fun c1 => ?_)
  · show V 21 [some (ZR 0), some (ZI n)] [] 284 σ
    refine zr_iconst (pc := 21) hV (-1) dX11_back_21 rfl ?_
    show V 22 [some (ZR 0), some (ZI n)] [ZI (-1)] 284 σ
    exact zr_iret (pc := 22) hV dX11_back_22 rfl rfl ⟨_, rfl, ⟨by decide, by decide⟩, hσ, hFσ, trivial, Uσ⟩
  · show V 10 [some (ZR 0), some (ZI n)] [] 284 σ
    refine zr_aload_n (pc := 10) hV dX11_back_10 rfl rfl ?_
    refine zr_getR (pc := 11) hV 5 140 dX11_back_11 fX11_48 rfl rfl (zc_k0 zc_s0) (zc_pos zc_s0 rfl) (zc_g0_5 hσ zc_s0) (by decide) ?_
    refine zr_iload_n (pc := 14) hV dX11_back_14 rfl rfl ?_
    refine zr_callVi (pc := 15) hV [ZI n] (st := []) (c_X6_goBack (σ := σ) hσ n (by omega)) dX11_back_15 mX11_200 (zc_k140 zc_s140) (zc_pos zc_s140 rfl) (by decide) (Nat.le_of_ble_eq_true rfl) (Nat.le_refl _) (fun r15 σ15 hr15 pσ15 => ?_)
    obtain ⟨hσ15, hfσ15, pσ15⟩ := pσ15
    have hFσ15 := zc_Fc hfσ15 rfl hFσ
    have Uσ15 : zc_U σ15 := zc_U_fr hfσ15 rfl hσ Uσ
    refine zr_goto (pc := 18) hV 22 dX11_back_18 (by decide) ?_
    show V 22 [some (ZR 0), some (ZI n)] [ZI r15] 284 σ15
    exact zr_iret (pc := 22) hV dX11_back_22 rfl rfl ⟨_, rfl, (by omega), hσ15, hFσ15, trivial, Uσ15⟩
set_option maxHeartbeats 800000 in
theorem c_X11_so {σ : zq_S} (hσ : zc_T σ) (what : Int) (q0 : zq_in what) (Uσ : zc_U σ) : zq_C zc_w yX11_so cX11_so 2 (some .int) 0 0 284 284 [ZR 0, ZI what] σ (zq_pp σ (fun r => True)) := by
  refine zq_C_of (by decide) (Nat.le_refl _) (Nat.le_of_ble_eq_true rfl) [some (ZR 0), some (ZI what)] rfl (fun V hV => ?_)
  show V 0 [some (ZR 0), some (ZI what)] [] 284 σ
  refine zr_iload_n (pc := 0) hV dX11_so_0 rfl rfl ?_
  by_cases c1 : what = 0
  · refine zr_eqI (V := V) 0 c1 ?_
    refine zr_tableIn (pc := 1) hV 32 dX11_so_1 ⟨by decide, by decide⟩ (by decide) (by decide) rfl (by decide) ?_
    show V 32 [some (ZR 0), some (ZI what)] [] 284 σ
    refine zr_aload_n (pc := 32) hV dX11_so_32 rfl rfl ?_
    refine zr_getR (pc := 33) hV 5 140 dX11_so_33 fX11_48 rfl rfl (zc_k0 zc_s0) (zc_pos zc_s0 rfl) (zc_g0_5 hσ zc_s0) (by decide) ?_
    refine zr_getI (pc := 36) hV 8 dX11_so_36 fX11_203 rfl rfl (zc_k140 zc_s140) (zc_pos zc_s140 rfl) ?_
    have t2 := zc_g140_8 hσ zc_s140
    exact zr_iret (pc := 39) hV dX11_so_39 rfl rfl ⟨rfl, _, rfl, (by omega), trivial⟩
  by_cases c3 : what = 1
  · refine zr_eqI (V := V) 1 c3 ?_
    refine zr_tableIn (pc := 1) hV 40 dX11_so_1 ⟨by decide, by decide⟩ (by decide) (by decide) rfl (by decide) ?_
    show V 40 [some (ZR 0), some (ZI what)] [] 284 σ
    refine zr_aload_n (pc := 40) hV dX11_so_40 rfl rfl ?_
    refine zr_getR (pc := 41) hV 5 140 dX11_so_41 fX11_48 rfl rfl (zc_k0 zc_s0) (zc_pos zc_s0 rfl) (zc_g0_5 hσ zc_s0) (by decide) ?_
    refine zr_getI (pc := 44) hV 9 dX11_so_44 fX11_206 rfl rfl (zc_k140 zc_s140) (zc_pos zc_s140 rfl) ?_
    have t4 := zc_g140_9 hσ zc_s140
    exact zr_iret (pc := 47) hV dX11_so_47 rfl rfl ⟨rfl, _, rfl, (by omega), trivial⟩
  by_cases c5 : what = 2
  · refine zr_eqI (V := V) 2 c5 ?_
    refine zr_tableIn (pc := 1) hV 48 dX11_so_1 ⟨by decide, by decide⟩ (by decide) (by decide) rfl (by decide) ?_
    show V 48 [some (ZR 0), some (ZI what)] [] 284 σ
    refine zr_aload_n (pc := 48) hV dX11_so_48 rfl rfl ?_
    refine zr_getR (pc := 49) hV 5 140 dX11_so_49 fX11_48 rfl rfl (zc_k0 zc_s0) (zc_pos zc_s0 rfl) (zc_g0_5 hσ zc_s0) (by decide) ?_
    refine zr_getI (pc := 52) hV 10 dX11_so_52 fX11_209 rfl rfl (zc_k140 zc_s140) (zc_pos zc_s140 rfl) ?_
    have t6 := zc_g140_10 hσ zc_s140
    exact zr_iret (pc := 55) hV dX11_so_55 rfl rfl ⟨rfl, _, rfl, (by omega), trivial⟩
  by_cases c7 : what = 3
  · refine zr_eqI (V := V) 3 c7 ?_
    refine zr_tableIn (pc := 1) hV 56 dX11_so_1 ⟨by decide, by decide⟩ (by decide) (by decide) rfl (by decide) ?_
    show V 56 [some (ZR 0), some (ZI what)] [] 284 σ
    refine zr_aload_n (pc := 56) hV dX11_so_56 rfl rfl ?_
    refine zr_getR (pc := 57) hV 5 140 dX11_so_57 fX11_48 rfl rfl (zc_k0 zc_s0) (zc_pos zc_s0 rfl) (zc_g0_5 hσ zc_s0) (by decide) ?_
    refine zr_getI (pc := 60) hV 11 dX11_so_60 fX11_212 rfl rfl (zc_k140 zc_s140) (zc_pos zc_s140 rfl) ?_
    have t8 := zc_g140_11 hσ zc_s140
    exact zr_iret (pc := 63) hV dX11_so_63 rfl rfl ⟨rfl, _, rfl, (by omega), trivial⟩
  refine zr_tableOut (pc := 1) hV 64 dX11_so_1 (by omega) (by omega) (by decide) ?_
  show V 64 [some (ZR 0), some (ZI what)] [] 284 σ
  refine zr_iconst (pc := 64) hV (-1) dX11_so_64 rfl ?_
  exact zr_iret (pc := 65) hV dX11_so_65 rfl rfl ⟨rfl, _, rfl, ⟨by decide, by decide⟩, trivial⟩
set_option maxHeartbeats 800000 in
theorem c_X11_text {σ : zq_S} (hσ : zc_T σ) (bits : Int) (k : Int) (q0 : zq_in bits) (q1 : zq_in k) (Uσ : zc_U σ) : zq_C zc_w yX11_text cX11_text 4 (some .int) 3 66 284 284 [ZR 0, ZI bits, ZI k] σ (zq_pi (fun r τ => zc_T τ ∧ zc_Fr [(132, 3), (133, -1)] σ τ ∧ (True) ∧ zc_U τ)) := by
  refine zq_C_of (by decide) (Nat.le_refl _) (Nat.le_of_ble_eq_true rfl) [some (ZR 0), some (ZI bits), some (ZI k), none] rfl (fun V hV => ?_)
  have hFσ := zc_Fr_rf [(132, 3), (133, -1)] σ
  show V 0 [some (ZR 0), some (ZI bits), some (ZI k), none] [] 284 σ
  refine zr_aload_n (pc := 0) hV dX11_text_0 rfl rfl ?_
  refine zr_getR (pc := 1) hV 1 3 dX11_text_1 fX11_19 rfl rfl (zc_k0 zc_s0) (zc_pos zc_s0 rfl) (zc_g0_1 hσ zc_s0) (by decide) ?_
  refine zr_iload_n (pc := 4) hV dX11_text_4 rfl rfl ?_
  refine zr_callVp (pc := 5) hV [ZI bits] (st := []) (c_X9_isBits (σ := σ) hσ bits (by omega)) dX11_text_5 mX11_127 (zc_k3 zc_s3) (zc_pos zc_s3 rfl) (by decide) (Nat.le_of_ble_eq_true rfl) (Nat.le_refl _) (fun r5 hr5 pr5 => ?_)
  refine zr_if_eq (pc := 8) hV 16 dX11_text_8 (by decide) (by omega) (fun c1 => ?_) (fun c1 => ?_)
  · show V 16 [some (ZR 0), some (ZI bits), some (ZI k), none] [] 284 σ
    refine zr_iconst (pc := 16) hV (-1) dX11_text_16 rfl ?_
    exact zr_iret (pc := 17) hV dX11_text_17 rfl rfl ⟨_, rfl, ⟨by decide, by decide⟩, hσ, hFσ, trivial, Uσ⟩
  · show V 11 [some (ZR 0), some (ZI bits), some (ZI k), none] [] 284 σ
    refine zr_iload_n (pc := 11) hV dX11_text_11 rfl rfl ?_
    refine zr_iconst (pc := 12) hV (-1) dX11_text_12 rfl ?_
    refine zr_icmp_ge (pc := 13) hV 18 dX11_text_13 (by decide) (by omega) ⟨by decide, by decide⟩ (fun c2 => ?_) (fun c2 => ?_)
    · show V 18 [some (ZR 0), some (ZI bits), some (ZI k), none] [] 284 σ
      refine zr_aload_n (pc := 18) hV dX11_text_18 rfl rfl ?_
      refine zr_getR (pc := 19) hV 1 3 dX11_text_19 fX11_19 rfl rfl (zc_k0 zc_s0) (zc_pos zc_s0 rfl) (zc_g0_1 hσ zc_s0) (by decide) ?_
      refine zr_iload_n (pc := 22) hV dX11_text_22 rfl rfl ?_
      refine zr_callVr (pc := 23) hV [ZI bits] (st := []) (c_X9_orderOf (σ := σ) hσ bits (by omega)) dX11_text_23 mX11_134 (zc_k3 zc_s3) (zc_pos zc_s3 rfl) (by decide) (Nat.le_of_ble_eq_true rfl) (Nat.le_refl _) (fun r23 pr23 => ?_)
      refine zr_astore_nQ (pc := 26) hV [some (ZR 0), some (ZI bits), some (ZI k), some (zq_nr r23)] dX11_text_26 rfl (by decide) rfl rfl ?_
      refine zr_aload_nQ (pc := 27) hV dX11_text_27 rfl rfl ?_
      by_cases c3 : r23 < 0
      · rw [zq_nr_n c3]
        refine zr_ifnonnullN (pc := 28) hV dX11_text_28 ?_
        show V 31 [some (ZR 0), some (ZI bits), some (ZI k), some (ZN)] [] 284 σ
        refine zr_bipush (pc := 31) hV (-4) dX11_text_31 (by decide) ?_
        exact zr_iret (pc := 33) hV dX11_text_33 rfl rfl ⟨_, rfl, ⟨by decide, by decide⟩, hσ, hFσ, trivial, Uσ⟩
      · rw [zq_nr_p c3]
        have kr23 : zc_kd r23 = 4 := pr23.1 (by omega)
        have por23 := zc_pos kr23 rfl
        refine zr_ifnonnull (pc := 28) hV 34 dX11_text_28 (by decide) ?_
        show V 34 [some (ZR 0), some (ZI bits), some (ZI k), some (ZR r23)] [] 284 σ
        refine zr_aload_n (pc := 34) hV dX11_text_34 rfl rfl ?_
        refine zr_getR (pc := 35) hV 2 132 dX11_text_35 fX11_28 rfl rfl (zc_k0 zc_s0) (zc_pos zc_s0 rfl) (zc_g0_2 hσ zc_s0) (by decide) ?_
        refine zr_aload_n (pc := 38) hV dX11_text_38 rfl rfl ?_
        refine zr_iload_n (pc := 39) hV dX11_text_39 rfl rfl ?_
        refine zr_callVv (pc := 40) hV [ZR r23, ZI bits] (st := []) (c_X4_writeLine (σ := σ) hσ r23 kr23 bits (by omega)) dX11_text_40 mX11_218 (zc_k132 zc_s132) (zc_pos zc_s132 rfl) (by decide) (Nat.le_of_ble_eq_true rfl) (Nat.le_refl _) (fun σ40 pσ40 => ?_)
        obtain ⟨hσ40, hfσ40, pσ40⟩ := pσ40
        have hFσ40 := zc_Fc hfσ40 rfl hFσ
        have Uσ40 : zc_U σ40 := zc_U_fr hfσ40 rfl hσ Uσ
        refine zr_iload_n (pc := 43) hV dX11_text_43 rfl rfl ?_
        refine zr_iconst (pc := 44) hV (-1) dX11_text_44 rfl ?_
        refine zr_icmp_ne (pc := 45) hV 58 dX11_text_45 (by decide) (by omega) ⟨by decide, by decide⟩ (fun c4 => ?_) (fun c4 => ?_)
        · show V 58 [some (ZR 0), some (ZI bits), some (ZI k), some (ZR r23)] [] 284 σ40
          refine zr_aload_n (pc := 58) hV dX11_text_58 rfl rfl ?_
          refine zr_getR (pc := 59) hV 2 132 dX11_text_59 fX11_28 rfl rfl (zc_k0 zc_s0) (zc_pos zc_s0 rfl) (zc_g0_2 hσ40 zc_s0) (by decide) ?_
          refine zr_iload_n (pc := 62) hV dX11_text_62 rfl rfl ?_
          refine zr_callVp (pc := 63) hV [ZI k] (st := []) (c_X4_byteAt (σ := σ40) hσ40 k (by omega)) dX11_text_63 mX11_225 (zc_k132 zc_s132) (zc_pos zc_s132 rfl) (by decide) (Nat.le_of_ble_eq_true rfl) (Nat.le_refl _) (fun r63 hr63 pr63 => ?_)
          show V 66 [some (ZR 0), some (ZI bits), some (ZI k), some (ZR r23)] [ZI r63] 284 σ40
          exact zr_iret (pc := 66) hV dX11_text_66 rfl rfl ⟨_, rfl, (by omega), hσ40, hFσ40, trivial, Uσ40⟩
        · show V 48 [some (ZR 0), some (ZI bits), some (ZI k), some (ZR r23)] [] 284 σ40
          refine zr_aload_n (pc := 48) hV dX11_text_48 rfl rfl ?_
          refine zr_getR (pc := 49) hV 2 132 dX11_text_49 fX11_28 rfl rfl (zc_k0 zc_s0) (zc_pos zc_s0 rfl) (zc_g0_2 hσ40 zc_s0) (by decide) ?_
          refine zr_getI (pc := 52) hV 3 dX11_text_52 fX11_222 rfl rfl (zc_k132 zc_s132) (zc_pos zc_s132 rfl) ?_
          have t5 := zc_g132_3 hσ40 zc_s132
          refine zr_goto (pc := 55) hV 66 dX11_text_55 (by decide) ?_
          show V 66 [some (ZR 0), some (ZI bits), some (ZI k), some (ZR r23)] [ZI (σ40 132 3)] 284 σ40
          exact zr_iret (pc := 66) hV dX11_text_66 rfl rfl ⟨_, rfl, (by omega), hσ40, hFσ40, trivial, Uσ40⟩
    · show V 16 [some (ZR 0), some (ZI bits), some (ZI k), none] [] 284 σ
      refine zr_iconst (pc := 16) hV (-1) dX11_text_16 rfl ?_
      exact zr_iret (pc := 17) hV dX11_text_17 rfl rfl ⟨_, rfl, ⟨by decide, by decide⟩, hσ, hFσ, trivial, Uσ⟩
set_option maxHeartbeats 800000 in
theorem c_X11_price {σ : zq_S} (hσ : zc_T σ)   (Uσ : zc_U σ) : zq_C zc_w yX11_price cX11_price 1 (some .int) 6 135 284 284 [ZR 0] σ (zq_pi (fun r τ => zc_T τ ∧ zc_Fr [(272, -1), (273, -1)] σ τ ∧ (True) ∧ zc_U τ)) := by
  refine zq_C_of (by decide) (Nat.le_refl _) (Nat.le_of_ble_eq_true rfl) [some (ZR 0)] rfl (fun V hV => ?_)
  have hFσ := zc_Fr_rf [(272, -1), (273, -1)] σ
  show V 0 [some (ZR 0)] [] 284 σ
  refine zr_aload_n (pc := 0) hV dX11_price_0 rfl rfl ?_
  refine zr_getR (pc := 1) hV 6 255 dX11_price_1 fX11_57 rfl rfl (zc_k0 zc_s0) (zc_pos zc_s0 rfl) (zc_g0_6 hσ zc_s0) (by decide) ?_
  refine zr_getI (pc := 4) hV 3 dX11_price_4 fX11_240 rfl rfl (zc_k255 zc_s255) (zc_pos zc_s255 rfl) ?_
  have t1 := zc_g255_3 hσ zc_s255
  refine zr_if_eq (pc := 7) hV 20 dX11_price_7 (by decide) (by omega) (fun c2 => ?_) (fun c2 => ?_)
  · show V 20 [some (ZR 0)] [] 284 σ
    refine zr_bipush (pc := 20) hV (-2) dX11_price_20 (by decide) ?_
    show V 22 [some (ZR 0)] [ZI (-2)] 284 σ
    exact zr_iret (pc := 22) hV dX11_price_22 rfl rfl ⟨_, rfl, ⟨by decide, by decide⟩, hσ, hFσ, trivial, Uσ⟩
  · show V 10 [some (ZR 0)] [] 284 σ
    refine zr_aload_n (pc := 10) hV dX11_price_10 rfl rfl ?_
    refine zr_getR (pc := 11) hV 6 255 dX11_price_11 fX11_57 rfl rfl (zc_k0 zc_s0) (zc_pos zc_s0 rfl) (zc_g0_6 hσ zc_s0) (by decide) ?_
    have Nσ : zc_N σ := Uσ.2 (by omega)
    refine zr_callVi (pc := 14) hV [] (st := []) (c_X1_priceOfSum (σ := σ) hσ Nσ) dX11_price_14 mX11_244 (zc_k255 zc_s255) (zc_pos zc_s255 rfl) (by decide) (Nat.le_of_ble_eq_true rfl) (Nat.le_refl _) (fun r14 σ14 hr14 pσ14 => ?_)
    obtain ⟨hσ14, hfσ14, pσ14, Nσ14⟩ := pσ14
    have hFσ14 := zc_Fc hfσ14 rfl hFσ
    have Uσ14 : zc_U σ14 := zc_U_fr hfσ14 rfl hσ Uσ
    refine zr_goto (pc := 17) hV 22 dX11_price_17 (by decide) ?_
    show V 22 [some (ZR 0)] [ZI r14] 284 σ14
    exact zr_iret (pc := 22) hV dX11_price_22 rfl rfl ⟨_, rfl, (by omega), hσ14, hFσ14, trivial, Uσ14⟩
set_option maxHeartbeats 800000 in
theorem c_X11_make {σ : zq_S} (hσ : zc_T σ) (place : Int) (q0 : zq_in place) (Uσ : zc_U σ) : zq_C zc_w yX11_make cX11_make 2 (some .int) 7 158 284 284 [ZR 0, ZI place] σ (zq_pi (fun r τ => zc_T τ ∧ zc_Fr [(139, -1), (255, 9), (272, -1), (273, -1), (274, -1), (275, -1)] σ τ ∧ (True) ∧ zc_U τ)) := by
  refine zq_C_of (by decide) (Nat.le_refl _) (Nat.le_of_ble_eq_true rfl) [some (ZR 0), some (ZI place)] rfl (fun V hV => ?_)
  have hFσ := zc_Fr_rf [(139, -1), (255, 9), (272, -1), (273, -1), (274, -1), (275, -1)] σ
  show V 0 [some (ZR 0), some (ZI place)] [] 284 σ
  refine zr_iload_n (pc := 0) hV dX11_make_0 rfl rfl ?_
  refine zr_callSp (pc := 1) hV [ZI place] (st := []) (c_X11_isPlace (σ := σ) place (by omega)) dX11_make_1 mX11_173 (by decide) (Nat.le_of_ble_eq_true rfl) (Nat.le_refl _) (fun r1 hr1 pr1 => ?_)
  refine zr_if_ne (pc := 4) hV 9 dX11_make_4 (by decide) (by omega) (fun c1 => ?_) (fun c1 => ?_)
  · show V 9 [some (ZR 0), some (ZI place)] [] 284 σ
    refine zr_aload_n (pc := 9) hV dX11_make_9 rfl rfl ?_
    refine zr_getR (pc := 10) hV 6 255 dX11_make_10 fX11_57 rfl rfl (zc_k0 zc_s0) (zc_pos zc_s0 rfl) (zc_g0_6 hσ zc_s0) (by decide) ?_
    refine zr_getI (pc := 13) hV 3 dX11_make_13 fX11_240 rfl rfl (zc_k255 zc_s255) (zc_pos zc_s255 rfl) ?_
    have t2 := zc_g255_3 hσ zc_s255
    refine zr_if_eq (pc := 16) hV 34 dX11_make_16 (by decide) (by omega) (fun c3 => ?_) (fun c3 => ?_)
    · show V 34 [some (ZR 0), some (ZI place)] [] 284 σ
      refine zr_bipush (pc := 34) hV (-2) dX11_make_34 (by decide) ?_
      show V 36 [some (ZR 0), some (ZI place)] [ZI (-2)] 284 σ
      exact zr_iret (pc := 36) hV dX11_make_36 rfl rfl ⟨_, rfl, ⟨by decide, by decide⟩, hσ, hFσ, trivial, Uσ⟩
    · show V 19 [some (ZR 0), some (ZI place)] [] 284 σ
      refine zr_aload_n (pc := 19) hV dX11_make_19 rfl rfl ?_
      refine zr_getR (pc := 20) hV 6 255 dX11_make_20 fX11_57 rfl rfl (zc_k0 zc_s0) (zc_pos zc_s0 rfl) (zc_g0_6 hσ zc_s0) (by decide) ?_
      refine zr_aload_n (pc := 23) hV dX11_make_23 rfl rfl ?_
      refine zr_getR (pc := 24) hV 4 139 dX11_make_24 fX11_39 rfl rfl (zc_k0 zc_s0) (zc_pos zc_s0 rfl) (zc_g0_4 hσ zc_s0) (by decide) ?_
      refine zr_iload_n (pc := 27) hV dX11_make_27 rfl rfl ?_
      have Nσ : zc_N σ := Uσ.2 (by omega)
      refine zr_callVi (pc := 28) hV [ZR 139, ZI place] (st := []) (c_X1_makeInto (σ := σ) hσ place (by omega) Nσ) dX11_make_28 mX11_247 (zc_k255 zc_s255) (zc_pos zc_s255 rfl) (by decide) (Nat.le_of_ble_eq_true rfl) (Nat.le_refl _) (fun r28 σ28 hr28 pσ28 => ?_)
      obtain ⟨hσ28, hfσ28, pσ28, Nσ28⟩ := pσ28
      have hFσ28 := zc_Fc hfσ28 rfl hFσ
      have Uσ28 : zc_U σ28 := zc_U_fr hfσ28 rfl hσ Uσ
      refine zr_goto (pc := 31) hV 36 dX11_make_31 (by decide) ?_
      show V 36 [some (ZR 0), some (ZI place)] [ZI r28] 284 σ28
      exact zr_iret (pc := 36) hV dX11_make_36 rfl rfl ⟨_, rfl, (by omega), hσ28, hFσ28, trivial, Uσ28⟩
  · show V 7 [some (ZR 0), some (ZI place)] [] 284 σ
    refine zr_iconst (pc := 7) hV (-1) dX11_make_7 rfl ?_
    exact zr_iret (pc := 8) hV dX11_make_8 rfl rfl ⟨_, rfl, ⟨by decide, by decide⟩, hσ, hFσ, trivial, Uσ⟩
set_option maxHeartbeats 800000 in
theorem c_X11_value {σ : zq_S} (hσ : zc_T σ)   (Uσ : zc_U σ) : zq_C zc_w yX11_value cX11_value 1 (some .int) 2 46 284 284 [ZR 0] σ (zq_pi (fun r τ => zc_T τ ∧ zc_Fr [(261, -1)] σ τ ∧ (True) ∧ zc_U τ)) := by
  refine zq_C_of (by decide) (Nat.le_refl _) (Nat.le_of_ble_eq_true rfl) [some (ZR 0)] rfl (fun V hV => ?_)
  have hFσ := zc_Fr_rf [(261, -1)] σ
  show V 0 [some (ZR 0)] [] 284 σ
  refine zr_aload_n (pc := 0) hV dX11_value_0 rfl rfl ?_
  refine zr_getR (pc := 1) hV 6 255 dX11_value_1 fX11_57 rfl rfl (zc_k0 zc_s0) (zc_pos zc_s0 rfl) (zc_g0_6 hσ zc_s0) (by decide) ?_
  refine zr_getI (pc := 4) hV 3 dX11_value_4 fX11_240 rfl rfl (zc_k255 zc_s255) (zc_pos zc_s255 rfl) ?_
  have t1 := zc_g255_3 hσ zc_s255
  refine zr_if_eq (pc := 7) hV 40 dX11_value_7 (by decide) (by omega) (fun c2 => ?_) (fun c2 => ?_)
  · show V 40 [some (ZR 0)] [] 284 σ
    refine zr_bipush (pc := 40) hV (-2) dX11_value_40 (by decide) ?_
    show V 42 [some (ZR 0)] [ZI (-2)] 284 σ
    exact zr_iret (pc := 42) hV dX11_value_42 rfl rfl ⟨_, rfl, ⟨by decide, by decide⟩, hσ, hFσ, trivial, Uσ⟩
  · show V 10 [some (ZR 0)] [] 284 σ
    refine zr_aload_n (pc := 10) hV dX11_value_10 rfl rfl ?_
    refine zr_getR (pc := 11) hV 6 255 dX11_value_11 fX11_57 rfl rfl (zc_k0 zc_s0) (zc_pos zc_s0 rfl) (zc_g0_6 hσ zc_s0) (by decide) ?_
    obtain ⟨o14, eo14⟩ : ∃ o, σ 255 1 = o := ⟨_, rfl⟩
    have ko14 : zc_kd o14 = 256 := eo14 ▸ zc_g255_1 hσ zc_s255
    have po14 := zc_pos ko14 rfl
    refine zr_getR (pc := 14) hV 1 o14 dX11_value_14 fX11_232 rfl rfl (zc_k255 zc_s255) (zc_pos zc_s255 rfl) (by omega) (zc_pos ko14 rfl).1 ?_
    refine zr_aload_n (pc := 17) hV dX11_value_17 rfl rfl ?_
    refine zr_getR (pc := 18) hV 5 140 dX11_value_18 fX11_48 rfl rfl (zc_k0 zc_s0) (zc_pos zc_s0 rfl) (zc_g0_5 hσ zc_s0) (by decide) ?_
    refine zr_getR (pc := 21) hV 2 141 dX11_value_21 fX11_179 rfl rfl (zc_k140 zc_s140) (zc_pos zc_s140 rfl) (zc_g140_2 hσ zc_s140) (by decide) ?_
    refine zr_getR (pc := 24) hV 1 142 dX11_value_24 fX11_251 rfl rfl (zc_k141 zc_s141) (zc_pos zc_s141 rfl) (zc_g141_1 hσ zc_s141) (by decide) ?_
    refine zr_aload_n (pc := 27) hV dX11_value_27 rfl rfl ?_
    refine zr_getR (pc := 28) hV 1 3 dX11_value_28 fX11_19 rfl rfl (zc_k0 zc_s0) (zc_pos zc_s0 rfl) (zc_g0_1 hσ zc_s0) (by decide) ?_
    refine zr_callVp (pc := 31) hV [] (st := [ZR 142, ZR o14]) (c_X9_wordMask (σ := σ) hσ) dX11_value_31 mX11_79 (zc_k3 zc_s3) (zc_pos zc_s3 rfl) (by decide) (Nat.le_of_ble_eq_true rfl) (Nat.le_refl _) (fun r31 hr31 pr31 => ?_)
    refine zr_callVi (pc := 34) hV [ZR 142, ZI r31] (st := []) (c_X7_worth (σ := σ) hσ o14 ko14 r31 (by omega)) dX11_value_34 mX11_253 (zc_k256 ko14) (zc_pos ko14 rfl) (by decide) (Nat.le_of_ble_eq_true rfl) (Nat.le_refl _) (fun r34 σ34 hr34 pσ34 => ?_)
    obtain ⟨hσ34, hfσ34, pσ34⟩ := pσ34
    have hFσ34 := zc_Fc hfσ34 rfl hFσ
    have Uσ34 : zc_U σ34 := zc_U_fr hfσ34 rfl hσ Uσ
    refine zr_goto (pc := 37) hV 42 dX11_value_37 (by decide) ?_
    show V 42 [some (ZR 0)] [ZI r34] 284 σ34
    exact zr_iret (pc := 42) hV dX11_value_42 rfl rfl ⟨_, rfl, (by omega), hσ34, hFσ34, trivial, Uσ34⟩
set_option maxHeartbeats 800000 in
theorem c_X11_pairs {σ : zq_S} (hσ : zc_T σ) (a : Int) (b : Int) (end_ : Int) (q0 : zq_in a) (q1 : zq_in b) (q2 : zq_in end_) (Uσ : zc_U σ) : zq_C zc_w yX11_pairs cX11_pairs 4 (some .int) 4 93 284 284 [ZR 0, ZI a, ZI b, ZI end_] σ (zq_pp σ (fun r => True)) := by
  refine zq_C_of (by decide) (Nat.le_refl _) (Nat.le_of_ble_eq_true rfl) [some (ZR 0), some (ZI a), some (ZI b), some (ZI end_)] rfl (fun V hV => ?_)
  show V 0 [some (ZR 0), some (ZI a), some (ZI b), some (ZI end_)] [] 284 σ
  refine zr_aload_n (pc := 0) hV dX11_pairs_0 rfl rfl ?_
  refine zr_getR (pc := 1) hV 1 3 dX11_pairs_1 fX11_19 rfl rfl (zc_k0 zc_s0) (zc_pos zc_s0 rfl) (zc_g0_1 hσ zc_s0) (by decide) ?_
  refine zr_iload_n (pc := 4) hV dX11_pairs_4 rfl rfl ?_
  refine zr_callVr (pc := 5) hV [ZI a] (st := []) (c_X9_numbered (σ := σ) hσ a (by omega)) dX11_pairs_5 mX11_117 (zc_k3 zc_s3) (zc_pos zc_s3 rfl) (by decide) (Nat.le_of_ble_eq_true rfl) (Nat.le_refl _) (fun r5 pr5 => ?_)
  by_cases c1 : r5 < 0
  · rw [zq_nr_n c1]
    refine zr_ifnullN (pc := 8) hV 32 dX11_pairs_8 (by decide) ?_
    show V 32 [some (ZR 0), some (ZI a), some (ZI b), some (ZI end_)] [] 284 σ
    refine zr_iconst (pc := 32) hV (-1) dX11_pairs_32 rfl ?_
    exact zr_iret (pc := 33) hV dX11_pairs_33 rfl rfl ⟨rfl, _, rfl, ⟨by decide, by decide⟩, trivial⟩
  · rw [zq_nr_p c1]
    have kr5 : zc_kd r5 = 4 := pr5.1 (by omega)
    have por5 := zc_pos kr5 rfl
    refine zr_ifnull (pc := 8) hV dX11_pairs_8 ?_
    show V 11 [some (ZR 0), some (ZI a), some (ZI b), some (ZI end_)] [] 284 σ
    refine zr_aload_n (pc := 11) hV dX11_pairs_11 rfl rfl ?_
    refine zr_getR (pc := 12) hV 1 3 dX11_pairs_12 fX11_19 rfl rfl (zc_k0 zc_s0) (zc_pos zc_s0 rfl) (zc_g0_1 hσ zc_s0) (by decide) ?_
    refine zr_iload_n (pc := 15) hV dX11_pairs_15 rfl rfl ?_
    refine zr_callVr (pc := 16) hV [ZI b] (st := []) (c_X9_numbered (σ := σ) hσ b (by omega)) dX11_pairs_16 mX11_117 (zc_k3 zc_s3) (zc_pos zc_s3 rfl) (by decide) (Nat.le_of_ble_eq_true rfl) (Nat.le_refl _) (fun r16 pr16 => ?_)
    by_cases c2 : r16 < 0
    · rw [zq_nr_n c2]
      refine zr_ifnullN (pc := 19) hV 32 dX11_pairs_19 (by decide) ?_
      show V 32 [some (ZR 0), some (ZI a), some (ZI b), some (ZI end_)] [] 284 σ
      refine zr_iconst (pc := 32) hV (-1) dX11_pairs_32 rfl ?_
      exact zr_iret (pc := 33) hV dX11_pairs_33 rfl rfl ⟨rfl, _, rfl, ⟨by decide, by decide⟩, trivial⟩
    · rw [zq_nr_p c2]
      have kr16 : zc_kd r16 = 4 := pr16.1 (by omega)
      have por16 := zc_pos kr16 rfl
      refine zr_ifnull (pc := 19) hV dX11_pairs_19 ?_
      show V 22 [some (ZR 0), some (ZI a), some (ZI b), some (ZI end_)] [] 284 σ
      refine zr_iload_n (pc := 22) hV dX11_pairs_22 rfl rfl ?_
      refine zr_iconst (pc := 23) hV 0 dX11_pairs_23 rfl ?_
      refine zr_bipush (pc := 24) hV 64 dX11_pairs_24 (by decide) ?_
      refine zr_callSp (pc := 26) hV [ZI end_, ZI 0, ZI 64] (st := []) (c_X11_within (σ := σ) end_ 0 64 (by omega) (by omega) (by omega)) dX11_pairs_26 mX11_89 (by decide) (Nat.le_of_ble_eq_true rfl) (Nat.le_refl _) (fun r26 hr26 pr26 => ?_)
      refine zr_if_ne (pc := 29) hV 34 dX11_pairs_29 (by decide) (by omega) (fun c3 => ?_) (fun c3 => ?_)
      · show V 34 [some (ZR 0), some (ZI a), some (ZI b), some (ZI end_)] [] 284 σ
        refine zr_aload_n (pc := 34) hV dX11_pairs_34 rfl rfl ?_
        refine zr_getR (pc := 35) hV 1 3 dX11_pairs_35 fX11_19 rfl rfl (zc_k0 zc_s0) (zc_pos zc_s0 rfl) (zc_g0_1 hσ zc_s0) (by decide) ?_
        refine zr_aload_n (pc := 38) hV dX11_pairs_38 rfl rfl ?_
        refine zr_getR (pc := 39) hV 4 139 dX11_pairs_39 fX11_39 rfl rfl (zc_k0 zc_s0) (zc_pos zc_s0 rfl) (zc_g0_4 hσ zc_s0) (by decide) ?_
        refine zr_iload_n (pc := 42) hV dX11_pairs_42 rfl rfl ?_
        refine zr_iload_n (pc := 43) hV dX11_pairs_43 rfl rfl ?_
        refine zr_iload_n (pc := 44) hV dX11_pairs_44 rfl rfl ?_
        refine zr_callVp (pc := 45) hV [ZR 139, ZI a, ZI b, ZI end_] (st := []) (c_X9_countPairs (σ := σ) hσ a b end_ (by omega) (by omega) (by omega)) dX11_pairs_45 mX11_256 (zc_k3 zc_s3) (zc_pos zc_s3 rfl) (by decide) (Nat.le_of_ble_eq_true rfl) (Nat.le_refl _) (fun r45 hr45 pr45 => ?_)
        exact zr_iret (pc := 48) hV dX11_pairs_48 rfl rfl ⟨rfl, _, rfl, (by omega), trivial⟩
      · show V 32 [some (ZR 0), some (ZI a), some (ZI b), some (ZI end_)] [] 284 σ
        refine zr_iconst (pc := 32) hV (-1) dX11_pairs_32 rfl ?_
        exact zr_iret (pc := 33) hV dX11_pairs_33 rfl rfl ⟨rfl, _, rfl, ⟨by decide, by decide⟩, trivial⟩
set_option maxHeartbeats 800000 in
theorem c_X11_room {σ : zq_S} (hσ : zc_T σ) (a : Int) (b : Int) (q0 : zq_in a) (q1 : zq_in b) (Uσ : zc_U σ) : zq_C zc_w yX11_room cX11_room 5 (some .int) 5 111 284 284 [ZR 0, ZI a, ZI b] σ (zq_pp σ (fun r => True)) := by
  refine zq_C_of (by decide) (Nat.le_refl _) (Nat.le_of_ble_eq_true rfl) [some (ZR 0), some (ZI a), some (ZI b), none, none] rfl (fun V hV => ?_)
  show V 0 [some (ZR 0), some (ZI a), some (ZI b), none, none] [] 284 σ
  refine zr_aload_n (pc := 0) hV dX11_room_0 rfl rfl ?_
  refine zr_getR (pc := 1) hV 1 3 dX11_room_1 fX11_19 rfl rfl (zc_k0 zc_s0) (zc_pos zc_s0 rfl) (zc_g0_1 hσ zc_s0) (by decide) ?_
  refine zr_iload_n (pc := 4) hV dX11_room_4 rfl rfl ?_
  refine zr_callVr (pc := 5) hV [ZI a] (st := []) (c_X9_numbered (σ := σ) hσ a (by omega)) dX11_room_5 mX11_117 (zc_k3 zc_s3) (zc_pos zc_s3 rfl) (by decide) (Nat.le_of_ble_eq_true rfl) (Nat.le_refl _) (fun r5 pr5 => ?_)
  refine zr_astore_nQ (pc := 8) hV [some (ZR 0), some (ZI a), some (ZI b), some (zq_nr r5), none] dX11_room_8 rfl (by decide) rfl rfl ?_
  refine zr_aload_n (pc := 9) hV dX11_room_9 rfl rfl ?_
  refine zr_getR (pc := 10) hV 1 3 dX11_room_10 fX11_19 rfl rfl (zc_k0 zc_s0) (zc_pos zc_s0 rfl) (zc_g0_1 hσ zc_s0) (by decide) ?_
  refine zr_iload_n (pc := 13) hV dX11_room_13 rfl rfl ?_
  refine zr_callVr (pc := 14) hV [ZI b] (st := []) (c_X9_numbered (σ := σ) hσ b (by omega)) dX11_room_14 mX11_117 (zc_k3 zc_s3) (zc_pos zc_s3 rfl) (by decide) (Nat.le_of_ble_eq_true rfl) (Nat.le_refl _) (fun r14 pr14 => ?_)
  refine zr_astoreQ (pc := 17) hV [some (ZR 0), some (ZI a), some (ZI b), some (zq_nr r5), some (zq_nr r14)] dX11_room_17 (by decide) (by simp only [zq_nr]; split <;> rfl) rfl ?_
  refine zr_aload_nQ (pc := 19) hV dX11_room_19 rfl rfl ?_
  by_cases c1 : r5 < 0
  · rw [zq_nr_n c1]
    refine zr_ifnullN (pc := 20) hV 28 dX11_room_20 (by decide) ?_
    show V 28 [some (ZR 0), some (ZI a), some (ZI b), some (ZN), some (zq_nr r14)] [] 284 σ
    refine zr_iconst (pc := 28) hV (-1) dX11_room_28 rfl ?_
    refine zr_goto (pc := 29) hV 42 dX11_room_29 (by decide) ?_
    show V 42 [some (ZR 0), some (ZI a), some (ZI b), some (ZN), some (zq_nr r14)] [ZI (-1)] 284 σ
    exact zr_iret (pc := 42) hV dX11_room_42 rfl rfl ⟨rfl, _, rfl, ⟨by decide, by decide⟩, trivial⟩
  · rw [zq_nr_p c1]
    have kr5 : zc_kd r5 = 4 := pr5.1 (by omega)
    have por5 := zc_pos kr5 rfl
    refine zr_ifnull (pc := 20) hV dX11_room_20 ?_
    show V 23 [some (ZR 0), some (ZI a), some (ZI b), some (ZR r5), some (zq_nr r14)] [] 284 σ
    refine zr_aloadQ (pc := 23) hV dX11_room_23 rfl ?_
    by_cases c2 : r14 < 0
    · rw [zq_nr_n c2]
      refine zr_ifnonnullN (pc := 25) hV dX11_room_25 ?_
      show V 28 [some (ZR 0), some (ZI a), some (ZI b), some (ZR r5), some (ZN)] [] 284 σ
      refine zr_iconst (pc := 28) hV (-1) dX11_room_28 rfl ?_
      refine zr_goto (pc := 29) hV 42 dX11_room_29 (by decide) ?_
      show V 42 [some (ZR 0), some (ZI a), some (ZI b), some (ZR r5), some (ZN)] [ZI (-1)] 284 σ
      exact zr_iret (pc := 42) hV dX11_room_42 rfl rfl ⟨rfl, _, rfl, ⟨by decide, by decide⟩, trivial⟩
    · rw [zq_nr_p c2]
      have kr14 : zc_kd r14 = 4 := pr14.1 (by omega)
      have por14 := zc_pos kr14 rfl
      refine zr_ifnonnull (pc := 25) hV 32 dX11_room_25 (by decide) ?_
      show V 32 [some (ZR 0), some (ZI a), some (ZI b), some (ZR r5), some (ZR r14)] [] 284 σ
      refine zr_aload_n (pc := 32) hV dX11_room_32 rfl rfl ?_
      refine zr_getR (pc := 33) hV 1 3 dX11_room_33 fX11_19 rfl rfl (zc_k0 zc_s0) (zc_pos zc_s0 rfl) (zc_g0_1 hσ zc_s0) (by decide) ?_
      refine zr_aload_n (pc := 36) hV dX11_room_36 rfl rfl ?_
      refine zr_aload (pc := 37) hV dX11_room_37 rfl ?_
      refine zr_callVp (pc := 39) hV [ZR r5, ZR r14] (st := []) (c_X9_roomFor (σ := σ) hσ r5 kr5 r14 kr14) dX11_room_39 mX11_260 (zc_k3 zc_s3) (zc_pos zc_s3 rfl) (by decide) (Nat.le_of_ble_eq_true rfl) (Nat.le_refl _) (fun r39 hr39 pr39 => ?_)
      show V 42 [some (ZR 0), some (ZI a), some (ZI b), some (ZR r5), some (ZR r14)] [ZI r39] 284 σ
      exact zr_iret (pc := 42) hV dX11_room_42 rfl rfl ⟨rfl, _, rfl, (by omega), trivial⟩
set_option maxHeartbeats 800000 in
theorem c_X11_best {σ : zq_S} (hσ : zc_T σ) (end_ : Int) (q0 : zq_in end_) (Uσ : zc_U σ) : zq_C zc_w yX11_best cX11_best 2 (some .int) 6 138 284 284 [ZR 0, ZI end_] σ (zq_pp σ (fun r => True)) := by
  refine zq_C_of (by decide) (Nat.le_refl _) (Nat.le_of_ble_eq_true rfl) [some (ZR 0), some (ZI end_)] rfl (fun V hV => ?_)
  show V 0 [some (ZR 0), some (ZI end_)] [] 284 σ
  refine zr_iload_n (pc := 0) hV dX11_best_0 rfl rfl ?_
  refine zr_iconst (pc := 1) hV 0 dX11_best_1 rfl ?_
  refine zr_bipush (pc := 2) hV 64 dX11_best_2 (by decide) ?_
  refine zr_callSp (pc := 4) hV [ZI end_, ZI 0, ZI 64] (st := []) (c_X11_within (σ := σ) end_ 0 64 (by omega) (by omega) (by omega)) dX11_best_4 mX11_89 (by decide) (Nat.le_of_ble_eq_true rfl) (Nat.le_refl _) (fun r4 hr4 pr4 => ?_)
  refine zr_if_eq (pc := 7) hV 25 dX11_best_7 (by decide) (by omega) (fun c1 => ?_) (fun c1 => ?_)
  · show V 25 [some (ZR 0), some (ZI end_)] [] 284 σ
    refine zr_iconst (pc := 25) hV (-1) dX11_best_25 rfl ?_
    show V 26 [some (ZR 0), some (ZI end_)] [ZI (-1)] 284 σ
    exact zr_iret (pc := 26) hV dX11_best_26 rfl rfl ⟨rfl, _, rfl, ⟨by decide, by decide⟩, trivial⟩
  · show V 10 [some (ZR 0), some (ZI end_)] [] 284 σ
    refine zr_aload_n (pc := 10) hV dX11_best_10 rfl rfl ?_
    refine zr_getR (pc := 11) hV 1 3 dX11_best_11 fX11_19 rfl rfl (zc_k0 zc_s0) (zc_pos zc_s0 rfl) (zc_g0_1 hσ zc_s0) (by decide) ?_
    refine zr_aload_n (pc := 14) hV dX11_best_14 rfl rfl ?_
    refine zr_getR (pc := 15) hV 4 139 dX11_best_15 fX11_39 rfl rfl (zc_k0 zc_s0) (zc_pos zc_s0 rfl) (zc_g0_4 hσ zc_s0) (by decide) ?_
    refine zr_iload_n (pc := 18) hV dX11_best_18 rfl rfl ?_
    refine zr_callVp (pc := 19) hV [ZR 139, ZI end_] (st := []) (c_X9_bestPair (σ := σ) hσ end_ (by omega)) dX11_best_19 mX11_264 (zc_k3 zc_s3) (zc_pos zc_s3 rfl) (by decide) (Nat.le_of_ble_eq_true rfl) (Nat.le_refl _) (fun r19 hr19 pr19 => ?_)
    refine zr_goto (pc := 22) hV 26 dX11_best_22 (by decide) ?_
    show V 26 [some (ZR 0), some (ZI end_)] [ZI r19] 284 σ
    exact zr_iret (pc := 26) hV dX11_best_26 rfl rfl ⟨rfl, _, rfl, (by omega), trivial⟩
set_option maxHeartbeats 800000 in
theorem c_X11_log {σ : zq_S} (hσ : zc_T σ) (sheet : Int) (lane : Int) (from_ : Int) (n : Int) (q0 : zq_in sheet) (q1 : zq_in lane) (q2 : zq_in from_) (q3 : zq_in n) (Uσ : zc_U σ) : zq_C zc_w yX11_log cX11_log 6 (some .int) 7 157 284 284 [ZR 0, ZI sheet, ZI lane, ZI from_, ZI n] σ (zq_pi (fun r τ => zc_T τ ∧ zc_Fr [(147, 0), (147, 3), (147, 4), (147, 6), (148, -1), (149, -1), (150, -1), (151, -1), (152, -1)] σ τ ∧ (True) ∧ zc_U τ)) := by
  refine zq_C_of (by decide) (Nat.le_refl _) (Nat.le_of_ble_eq_true rfl) [some (ZR 0), some (ZI sheet), some (ZI lane), some (ZI from_), some (ZI n), none] rfl (fun V hV => ?_)
  have hFσ := zc_Fr_rf [(147, 0), (147, 3), (147, 4), (147, 6), (148, -1), (149, -1), (150, -1), (151, -1), (152, -1)] σ
  show V 0 [some (ZR 0), some (ZI sheet), some (ZI lane), some (ZI from_), some (ZI n), none] [] 284 σ
  refine zr_iload_n (pc := 0) hV dX11_log_0 rfl rfl ?_
  refine zr_callSp (pc := 1) hV [ZI sheet] (st := []) (c_X5_isSheet (σ := σ) sheet (by omega)) dX11_log_1 mX11_273 (by decide) (Nat.le_of_ble_eq_true rfl) (Nat.le_refl _) (fun r1 hr1 pr1 => ?_)
  refine zr_if_eq (pc := 4) hV 25 dX11_log_4 (by decide) (by omega) (fun c1 => ?_) (fun c1 => ?_)
  · show V 25 [some (ZR 0), some (ZI sheet), some (ZI lane), some (ZI from_), some (ZI n), none] [] 284 σ
    refine zr_iconst (pc := 25) hV (-1) dX11_log_25 rfl ?_
    exact zr_iret (pc := 26) hV dX11_log_26 rfl rfl ⟨_, rfl, ⟨by decide, by decide⟩, hσ, hFσ, trivial, Uσ⟩
  · show V 7 [some (ZR 0), some (ZI sheet), some (ZI lane), some (ZI from_), some (ZI n), none] [] 284 σ
    refine zr_iload_n (pc := 7) hV dX11_log_7 rfl rfl ?_
    refine zr_callSp (pc := 8) hV [ZI lane] (st := []) (c_X5_isLane (σ := σ) lane (by omega)) dX11_log_8 mX11_276 (by decide) (Nat.le_of_ble_eq_true rfl) (Nat.le_refl _) (fun r8 hr8 pr8 => ?_)
    refine zr_if_eq (pc := 11) hV 25 dX11_log_11 (by decide) (by omega) (fun c2 => ?_) (fun c2 => ?_)
    · show V 25 [some (ZR 0), some (ZI sheet), some (ZI lane), some (ZI from_), some (ZI n), none] [] 284 σ
      refine zr_iconst (pc := 25) hV (-1) dX11_log_25 rfl ?_
      exact zr_iret (pc := 26) hV dX11_log_26 rfl rfl ⟨_, rfl, ⟨by decide, by decide⟩, hσ, hFσ, trivial, Uσ⟩
    · show V 14 [some (ZR 0), some (ZI sheet), some (ZI lane), some (ZI from_), some (ZI n), none] [] 284 σ
      refine zr_iload (pc := 14) hV dX11_log_14 rfl ?_
      refine zr_iconst (pc := 16) hV 0 dX11_log_16 rfl ?_
      refine zr_bipush (pc := 17) hV 10 dX11_log_17 (by decide) ?_
      refine zr_callSp (pc := 19) hV [ZI n, ZI 0, ZI 10] (st := []) (c_X11_within (σ := σ) n 0 10 (by omega) (by omega) (by omega)) dX11_log_19 mX11_89 (by decide) (Nat.le_of_ble_eq_true rfl) (Nat.le_refl _) (fun r19 hr19 pr19 => ?_)
      refine zr_if_ne (pc := 22) hV 27 dX11_log_22 (by decide) (by omega) (fun c3 => ?_) (fun c3 => ?_)
      · show V 27 [some (ZR 0), some (ZI sheet), some (ZI lane), some (ZI from_), some (ZI n), none] [] 284 σ
        refine zr_aload_n (pc := 27) hV dX11_log_27 rfl rfl ?_
        refine zr_getR (pc := 28) hV 7 276 dX11_log_28 fX11_64 rfl rfl (zc_k0 zc_s0) (zc_pos zc_s0 rfl) (zc_g0_7 hσ zc_s0) (by decide) ?_
        refine zr_iload_n (pc := 31) hV dX11_log_31 rfl rfl ?_
        refine zr_iload_n (pc := 32) hV dX11_log_32 rfl rfl ?_
        refine zr_iload_n (pc := 33) hV dX11_log_33 rfl rfl ?_
        refine zr_iconst (pc := 34) hV 3 dX11_log_34 rfl ?_
        refine zr_iload (pc := 35) hV dX11_log_35 rfl ?_
        refine zr_imul (pc := 37) hV dX11_log_37 ?_
        refine zr_callVp (pc := 38) hV [ZI sheet, ZI lane, ZI from_, ZI (3 * n)] (st := []) (c_X5_refusal (σ := σ) hσ sheet lane from_ (3 * n) (by omega) (by omega) (by omega) (by omega)) dX11_log_38 mX11_279 (zc_k276 zc_s276) (zc_pos zc_s276 rfl) (by decide) (Nat.le_of_ble_eq_true rfl) (Nat.le_refl _) (fun r38 hr38 pr38 => ?_)
        refine zr_istore (pc := 41) hV [some (ZR 0), some (ZI sheet), some (ZI lane), some (ZI from_), some (ZI n), some (ZI r38)] dX11_log_41 (by decide) rfl rfl ?_
        refine zr_iload (pc := 43) hV dX11_log_43 rfl ?_
        refine zr_if_ge (pc := 45) hV 53 dX11_log_45 (by decide) (by omega) (fun c4 => ?_) (fun c4 => ?_)
        · show V 53 [some (ZR 0), some (ZI sheet), some (ZI lane), some (ZI from_), some (ZI n), some (ZI r38)] [] 284 σ
          refine zr_aload_n (pc := 53) hV dX11_log_53 rfl rfl ?_
          refine zr_getR (pc := 54) hV 5 140 dX11_log_54 fX11_48 rfl rfl (zc_k0 zc_s0) (zc_pos zc_s0 rfl) (zc_g0_5 hσ zc_s0) (by decide) ?_
          refine zr_aload_n (pc := 57) hV dX11_log_57 rfl rfl ?_
          refine zr_getR (pc := 58) hV 7 276 dX11_log_58 fX11_64 rfl rfl (zc_k0 zc_s0) (zc_pos zc_s0 rfl) (zc_g0_7 hσ zc_s0) (by decide) ?_
          refine zr_getR (pc := 61) hV 2 279 dX11_log_61 fX11_283 rfl rfl (zc_k276 zc_s276) (zc_pos zc_s276 rfl) (zc_g276_2 hσ zc_s276) (by decide) ?_
          refine zr_iload_n (pc := 64) hV dX11_log_64 rfl rfl ?_
          have ga65 : σ 279 sheet = 280 + sheet := zc_ga279 hσ zc_s279 sheet (by omega) (by omega)
          refine zr_aald (pc := 65) hV dX11_log_65 (zc_k279 zc_s279) (Or.inr rfl) (zc_pos zc_s279 rfl) rfl (by omega) (by omega) ?_
          obtain ⟨o65, eo65⟩ : ∃ o, σ 279 sheet = o := ⟨_, rfl⟩
          rw [eo65] at ga65 ⊢
          have ko65 : zc_kd o65 = 280 := ga65 ▸ zc_e280 (by omega) (by omega)
          have po65 := zc_pos ko65 rfl
          show V 66 [some (ZR 0), some (ZI sheet), some (ZI lane), some (ZI from_), some (ZI n), some (ZI r38)] [ZR o65, ZR 140] 284 σ
          refine zr_iload_n (pc := 66) hV dX11_log_66 rfl rfl ?_
          refine zr_iload (pc := 67) hV dX11_log_67 rfl ?_
          refine zr_callVi (pc := 69) hV [ZR o65, ZI from_, ZI n] (st := []) (c_X6_holdAgainst (σ := σ) hσ o65 ko65 from_ n (by omega) (by omega) (by omega)) dX11_log_69 mX11_287 (zc_k140 zc_s140) (zc_pos zc_s140 rfl) (by decide) (Nat.le_of_ble_eq_true rfl) (Nat.le_refl _) (fun r69 σ69 hr69 pσ69 => ?_)
          obtain ⟨hσ69, hfσ69, pσ69⟩ := pσ69
          have hFσ69 := zc_Fc hfσ69 rfl hFσ
          have Uσ69 : zc_U σ69 := zc_U_fr hfσ69 rfl hσ Uσ
          show V 72 [some (ZR 0), some (ZI sheet), some (ZI lane), some (ZI from_), some (ZI n), some (ZI r38)] [ZI r69] 284 σ69
          exact zr_iret (pc := 72) hV dX11_log_72 rfl rfl ⟨_, rfl, (by omega), hσ69, hFσ69, trivial, Uσ69⟩
        · show V 48 [some (ZR 0), some (ZI sheet), some (ZI lane), some (ZI from_), some (ZI n), some (ZI r38)] [] 284 σ
          refine zr_iload (pc := 48) hV dX11_log_48 rfl ?_
          refine zr_goto (pc := 50) hV 72 dX11_log_50 (by decide) ?_
          show V 72 [some (ZR 0), some (ZI sheet), some (ZI lane), some (ZI from_), some (ZI n), some (ZI r38)] [ZI r38] 284 σ
          exact zr_iret (pc := 72) hV dX11_log_72 rfl rfl ⟨_, rfl, (by omega), hσ, hFσ, trivial, Uσ⟩
      · show V 25 [some (ZR 0), some (ZI sheet), some (ZI lane), some (ZI from_), some (ZI n), none] [] 284 σ
        refine zr_iconst (pc := 25) hV (-1) dX11_log_25 rfl ?_
        exact zr_iret (pc := 26) hV dX11_log_26 rfl rfl ⟨_, rfl, ⟨by decide, by decide⟩, hσ, hFσ, trivial, Uσ⟩
set_option maxHeartbeats 800000 in
theorem c_X11_takeBits {σ : zq_S} (hσ : zc_T σ) (row : Int) (krow : zc_kd row = 280) (from_ : Int) (place : Int) (n : Int) (q0 : 0 ≤ from_ ∧ from_ ≤ 30) (q1 : 0 ≤ place ∧ place ≤ 63) (q2 : 0 ≤ n ∧ n ≤ 30) (q3 : from_ + n ≤ 30) (q4 : place + n ≤ 64) : zq_C zc_w yX11_takeBits cX11_takeBits 6 (some .int) 2 60 284 284 [ZR 0, ZR row, ZI from_, ZI place, ZI n] σ (zq_pi (fun r τ => zc_T τ ∧ zc_Fr [(139, -1)] σ τ ∧ (True))) := by
  refine zq_C_of (by decide) (Nat.le_refl _) (Nat.le_of_ble_eq_true rfl) [some (ZR 0), some (ZR row), some (ZI from_), some (ZI place), some (ZI n), none] rfl (fun V hV => ?_)
  have porow := zc_pos krow rfl
  have hFσ := zc_Fr_rf [(139, -1)] σ
  show V 0 [some (ZR 0), some (ZR row), some (ZI from_), some (ZI place), some (ZI n), none] [] 284 σ
  refine zr_iconst (pc := 0) hV 0 dX11_takeBits_0 rfl ?_
  refine zr_istore (pc := 1) hV [some (ZR 0), some (ZR row), some (ZI from_), some (ZI place), some (ZI n), some (ZI 0)] dX11_takeBits_1 (by decide) rfl rfl ?_
  have L3 : ∀ (fuel : Nat) (x5_3 : Int), (0 ≤ x5_3 ∧ x5_3 ≤ 30) → 30 - x5_3 < (fuel : Int) → V 3 [some (ZR 0), some (ZR row), some (ZI from_), some (ZI place), some (ZI n), some (ZI x5_3)] [] 284 σ := by
    intro fuel
    induction fuel with
    | zero =>
      intro x5_3 hx5_3 hm3
      exfalso; omega
    | succ fuel ih =>
      intro x5_3 hx5_3 hm3
      have ih3 := ih
      show V 3 [some (ZR 0), some (ZR row), some (ZI from_), some (ZI place), some (ZI n), some (ZI x5_3)] [] 284 σ
      refine zr_iload (pc := 3) hV dX11_takeBits_3 rfl ?_
      refine zr_iload (pc := 5) hV dX11_takeBits_5 rfl ?_
      refine zr_icmp_ge (pc := 7) hV 35 dX11_takeBits_7 (by decide) (by omega) (by omega) (fun c1 => ?_) (fun c1 => ?_)
      · show V 35 [some (ZR 0), some (ZR row), some (ZI from_), some (ZI place), some (ZI n), some (ZI x5_3)] [] 284 σ
        refine zr_aload_n (pc := 35) hV dX11_takeBits_35 rfl rfl ?_
        refine zr_iload_n (pc := 36) hV dX11_takeBits_36 rfl rfl ?_
        refine zr_aload_n (pc := 37) hV dX11_takeBits_37 rfl rfl ?_
        refine zr_getR (pc := 38) hV 4 139 dX11_takeBits_38 fX11_39 rfl rfl (zc_k0 zc_s0) (zc_pos zc_s0 rfl) (zc_g0_4 hσ zc_s0) (by decide) ?_
        refine zr_iload_n (pc := 41) hV dX11_takeBits_41 rfl rfl ?_
        refine zr_iload (pc := 42) hV dX11_takeBits_42 rfl ?_
        refine zr_copy (pc := 44) hV dX11_takeBits_44 lX11_294 lcp_nat lcp_stat lcp_ini (zc_k280 krow) (zc_k139 zc_s139) (zc_pos krow rfl) (zc_pos zc_s139 rfl) rfl rfl (by omega) (by omega) (by omega) rfl rfl (fun σ44 eσ44 => ?_)
        have hσ44 : zc_T σ44 := zc_Tcell eσ44 hσ zc_s139 (fun i => by split; exact zc_ga280 hσ krow _; exact zc_ga139 hσ zc_s139 _)
        have hFσ44 := zc_Fcell eσ44 zc_s139 rfl hFσ
        refine zr_iload (pc := 47) hV dX11_takeBits_47 rfl ?_
        exact zr_iret (pc := 49) hV dX11_takeBits_49 rfl rfl ⟨_, rfl, (by omega), hσ44, hFσ44, trivial⟩
      · show V 10 [some (ZR 0), some (ZR row), some (ZI from_), some (ZI place), some (ZI n), some (ZI x5_3)] [] 284 σ
        refine zr_aload_n (pc := 10) hV dX11_takeBits_10 rfl rfl ?_
        refine zr_getR (pc := 11) hV 1 3 dX11_takeBits_11 fX11_19 rfl rfl (zc_k0 zc_s0) (zc_pos zc_s0 rfl) (zc_g0_1 hσ zc_s0) (by decide) ?_
        refine zr_aload_n (pc := 14) hV dX11_takeBits_14 rfl rfl ?_
        refine zr_iload_n (pc := 15) hV dX11_takeBits_15 rfl rfl ?_
        refine zr_iload (pc := 16) hV dX11_takeBits_16 rfl ?_
        refine zr_iadd (pc := 18) hV dX11_takeBits_18 ?_
        refine zr_iald (pc := 19) hV dX11_takeBits_19 (zc_k280 krow) (zc_pos krow rfl) rfl (by omega) ?_
        have t2 := zc_ga280 hσ krow (from_ + x5_3)
        refine zr_callVp (pc := 20) hV [ZI (σ row (from_ + x5_3))] (st := []) (c_X9_isBits (σ := σ) hσ (σ row (from_ + x5_3)) (by omega)) dX11_takeBits_20 mX11_127 (zc_k3 zc_s3) (zc_pos zc_s3 rfl) (by decide) (Nat.le_of_ble_eq_true rfl) (Nat.le_refl _) (fun r20 hr20 pr20 => ?_)
        refine zr_if_ne (pc := 23) hV 29 dX11_takeBits_23 (by decide) (by omega) (fun c3 => ?_) (fun c3 => ?_)
        · show V 29 [some (ZR 0), some (ZR row), some (ZI from_), some (ZI place), some (ZI n), some (ZI x5_3)] [] 284 σ
          refine zr_iinc (pc := 29) hV [some (ZR 0), some (ZR row), some (ZI from_), some (ZI place), some (ZI n), some (ZI (x5_3 + 1))] (x5_3 + 1) dX11_takeBits_29 rfl rfl (by decide) rfl rfl ?_
          refine zr_goto (pc := 32) hV 3 dX11_takeBits_32 (by decide) ?_
          exact ih3 (x5_3 + 1) (by omega) (by omega)
        · show V 26 [some (ZR 0), some (ZR row), some (ZI from_), some (ZI place), some (ZI n), some (ZI x5_3)] [] 284 σ
          refine zr_bipush (pc := 26) hV (-2) dX11_takeBits_26 (by decide) ?_
          exact zr_iret (pc := 28) hV dX11_takeBits_28 rfl rfl ⟨_, rfl, ⟨by decide, by decide⟩, hσ, hFσ, trivial⟩
  exact L3 (30 - (0 : Int) + 1 : Int).toNat 0 (by omega) (by omega)
set_option maxHeartbeats 800000 in
theorem c_X11_load {σ : zq_S} (hσ : zc_T σ) (sheet : Int) (lane : Int) (from_ : Int) (place : Int) (n : Int) (q0 : zq_in sheet) (q1 : zq_in lane) (q2 : zq_in from_) (q3 : zq_in place) (q4 : zq_in n) (Uσ : zc_U σ) : zq_C zc_w yX11_load cX11_load 7 (some .int) 3 85 284 284 [ZR 0, ZI sheet, ZI lane, ZI from_, ZI place, ZI n] σ (zq_pi (fun r τ => zc_T τ ∧ zc_Fr [(139, -1)] σ τ ∧ (True) ∧ zc_U τ)) := by
  refine zq_C_of (by decide) (Nat.le_refl _) (Nat.le_of_ble_eq_true rfl) [some (ZR 0), some (ZI sheet), some (ZI lane), some (ZI from_), some (ZI place), some (ZI n), none] rfl (fun V hV => ?_)
  have hFσ := zc_Fr_rf [(139, -1)] σ
  show V 0 [some (ZR 0), some (ZI sheet), some (ZI lane), some (ZI from_), some (ZI place), some (ZI n), none] [] 284 σ
  refine zr_iload_n (pc := 0) hV dX11_load_0 rfl rfl ?_
  refine zr_callSp (pc := 1) hV [ZI sheet] (st := []) (c_X5_isSheet (σ := σ) sheet (by omega)) dX11_load_1 mX11_273 (by decide) (Nat.le_of_ble_eq_true rfl) (Nat.le_refl _) (fun r1 hr1 pr1 => ?_)
  refine zr_if_eq (pc := 4) hV 43 dX11_load_4 (by decide) (by omega) (fun c1 => ?_) (fun c1 => ?_)
  · show V 43 [some (ZR 0), some (ZI sheet), some (ZI lane), some (ZI from_), some (ZI place), some (ZI n), none] [] 284 σ
    refine zr_iconst (pc := 43) hV (-1) dX11_load_43 rfl ?_
    exact zr_iret (pc := 44) hV dX11_load_44 rfl rfl ⟨_, rfl, ⟨by decide, by decide⟩, hσ, hFσ, trivial, Uσ⟩
  · show V 7 [some (ZR 0), some (ZI sheet), some (ZI lane), some (ZI from_), some (ZI place), some (ZI n), none] [] 284 σ
    refine zr_iload_n (pc := 7) hV dX11_load_7 rfl rfl ?_
    refine zr_callSp (pc := 8) hV [ZI lane] (st := []) (c_X5_isLane (σ := σ) lane (by omega)) dX11_load_8 mX11_276 (by decide) (Nat.le_of_ble_eq_true rfl) (Nat.le_refl _) (fun r8 hr8 pr8 => ?_)
    refine zr_if_eq (pc := 11) hV 43 dX11_load_11 (by decide) (by omega) (fun c2 => ?_) (fun c2 => ?_)
    · show V 43 [some (ZR 0), some (ZI sheet), some (ZI lane), some (ZI from_), some (ZI place), some (ZI n), none] [] 284 σ
      refine zr_iconst (pc := 43) hV (-1) dX11_load_43 rfl ?_
      exact zr_iret (pc := 44) hV dX11_load_44 rfl rfl ⟨_, rfl, ⟨by decide, by decide⟩, hσ, hFσ, trivial, Uσ⟩
    · show V 14 [some (ZR 0), some (ZI sheet), some (ZI lane), some (ZI from_), some (ZI place), some (ZI n), none] [] 284 σ
      refine zr_iload (pc := 14) hV dX11_load_14 rfl ?_
      refine zr_iconst (pc := 16) hV 0 dX11_load_16 rfl ?_
      refine zr_bipush (pc := 17) hV 30 dX11_load_17 (by decide) ?_
      refine zr_callSp (pc := 19) hV [ZI n, ZI 0, ZI 30] (st := []) (c_X11_within (σ := σ) n 0 30 (by omega) (by omega) (by omega)) dX11_load_19 mX11_89 (by decide) (Nat.le_of_ble_eq_true rfl) (Nat.le_refl _) (fun r19 hr19 pr19 => ?_)
      refine zr_if_eq (pc := 22) hV 43 dX11_load_22 (by decide) (by omega) (fun c3 => ?_) (fun c3 => ?_)
      · show V 43 [some (ZR 0), some (ZI sheet), some (ZI lane), some (ZI from_), some (ZI place), some (ZI n), none] [] 284 σ
        refine zr_iconst (pc := 43) hV (-1) dX11_load_43 rfl ?_
        exact zr_iret (pc := 44) hV dX11_load_44 rfl rfl ⟨_, rfl, ⟨by decide, by decide⟩, hσ, hFσ, trivial, Uσ⟩
      · show V 25 [some (ZR 0), some (ZI sheet), some (ZI lane), some (ZI from_), some (ZI place), some (ZI n), none] [] 284 σ
        refine zr_iload (pc := 25) hV dX11_load_25 rfl ?_
        refine zr_callSp (pc := 27) hV [ZI place] (st := []) (c_X11_isPlace (σ := σ) place (by omega)) dX11_load_27 mX11_173 (by decide) (Nat.le_of_ble_eq_true rfl) (Nat.le_refl _) (fun r27 hr27 pr27 => ?_)
        refine zr_if_eq (pc := 30) hV 43 dX11_load_30 (by decide) (by omega) (fun c4 => ?_) (fun c4 => ?_)
        · show V 43 [some (ZR 0), some (ZI sheet), some (ZI lane), some (ZI from_), some (ZI place), some (ZI n), none] [] 284 σ
          refine zr_iconst (pc := 43) hV (-1) dX11_load_43 rfl ?_
          exact zr_iret (pc := 44) hV dX11_load_44 rfl rfl ⟨_, rfl, ⟨by decide, by decide⟩, hσ, hFσ, trivial, Uσ⟩
        · show V 33 [some (ZR 0), some (ZI sheet), some (ZI lane), some (ZI from_), some (ZI place), some (ZI n), none] [] 284 σ
          refine zr_iload (pc := 33) hV dX11_load_33 rfl ?_
          refine zr_iload (pc := 35) hV dX11_load_35 rfl ?_
          refine zr_iadd (pc := 37) hV dX11_load_37 ?_
          refine zr_bipush (pc := 38) hV 64 dX11_load_38 (by decide) ?_
          refine zr_icmp_le (pc := 40) hV 45 dX11_load_40 (by decide) (by omega) ⟨by decide, by decide⟩ (fun c5 => ?_) (fun c5 => ?_)
          · show V 45 [some (ZR 0), some (ZI sheet), some (ZI lane), some (ZI from_), some (ZI place), some (ZI n), none] [] 284 σ
            refine zr_aload_n (pc := 45) hV dX11_load_45 rfl rfl ?_
            refine zr_getR (pc := 46) hV 7 276 dX11_load_46 fX11_64 rfl rfl (zc_k0 zc_s0) (zc_pos zc_s0 rfl) (zc_g0_7 hσ zc_s0) (by decide) ?_
            refine zr_iload_n (pc := 49) hV dX11_load_49 rfl rfl ?_
            refine zr_iload_n (pc := 50) hV dX11_load_50 rfl rfl ?_
            refine zr_iload_n (pc := 51) hV dX11_load_51 rfl rfl ?_
            refine zr_iload (pc := 52) hV dX11_load_52 rfl ?_
            refine zr_callVp (pc := 54) hV [ZI sheet, ZI lane, ZI from_, ZI n] (st := []) (c_X5_refusal (σ := σ) hσ sheet lane from_ n (by omega) (by omega) (by omega) (by omega)) dX11_load_54 mX11_279 (zc_k276 zc_s276) (zc_pos zc_s276 rfl) (by decide) (Nat.le_of_ble_eq_true rfl) (Nat.le_refl _) (fun r54 hr54 pr54 => ?_)
            refine zr_istore (pc := 57) hV [some (ZR 0), some (ZI sheet), some (ZI lane), some (ZI from_), some (ZI place), some (ZI n), some (ZI r54)] dX11_load_57 (by decide) rfl rfl ?_
            refine zr_iload (pc := 59) hV dX11_load_59 rfl ?_
            refine zr_if_ge (pc := 61) hV 67 dX11_load_61 (by decide) (by omega) (fun c6 => ?_) (fun c6 => ?_)
            · show V 67 [some (ZR 0), some (ZI sheet), some (ZI lane), some (ZI from_), some (ZI place), some (ZI n), some (ZI r54)] [] 284 σ
              refine zr_aload_n (pc := 67) hV dX11_load_67 rfl rfl ?_
              refine zr_aload_n (pc := 68) hV dX11_load_68 rfl rfl ?_
              refine zr_getR (pc := 69) hV 7 276 dX11_load_69 fX11_64 rfl rfl (zc_k0 zc_s0) (zc_pos zc_s0 rfl) (zc_g0_7 hσ zc_s0) (by decide) ?_
              refine zr_getR (pc := 72) hV 2 279 dX11_load_72 fX11_283 rfl rfl (zc_k276 zc_s276) (zc_pos zc_s276 rfl) (zc_g276_2 hσ zc_s276) (by decide) ?_
              refine zr_iload_n (pc := 75) hV dX11_load_75 rfl rfl ?_
              have ga76 : σ 279 sheet = 280 + sheet := zc_ga279 hσ zc_s279 sheet (by omega) (by omega)
              refine zr_aald (pc := 76) hV dX11_load_76 (zc_k279 zc_s279) (Or.inr rfl) (zc_pos zc_s279 rfl) rfl (by omega) (by omega) ?_
              obtain ⟨o76, eo76⟩ : ∃ o, σ 279 sheet = o := ⟨_, rfl⟩
              rw [eo76] at ga76 ⊢
              have ko76 : zc_kd o76 = 280 := ga76 ▸ zc_e280 (by omega) (by omega)
              have po76 := zc_pos ko76 rfl
              show V 77 [some (ZR 0), some (ZI sheet), some (ZI lane), some (ZI from_), some (ZI place), some (ZI n), some (ZI r54)] [ZR o76, ZR 0] 284 σ
              refine zr_iload_n (pc := 77) hV dX11_load_77 rfl rfl ?_
              refine zr_iload (pc := 78) hV dX11_load_78 rfl ?_
              refine zr_iload (pc := 80) hV dX11_load_80 rfl ?_
              refine zr_callVi (pc := 82) hV [ZR o76, ZI from_, ZI place, ZI n] (st := []) (c_X11_takeBits (σ := σ) hσ o76 ko76 from_ place n (by omega) (by omega) (by omega) (by omega) (by omega)) dX11_load_82 mX11_291 (zc_k0 zc_s0) (zc_pos zc_s0 rfl) (by decide) (Nat.le_of_ble_eq_true rfl) (Nat.le_refl _) (fun r82 σ82 hr82 pσ82 => ?_)
              obtain ⟨hσ82, hfσ82, pσ82⟩ := pσ82
              have hFσ82 := zc_Fc hfσ82 rfl hFσ
              have Uσ82 : zc_U σ82 := zc_U_fr hfσ82 rfl hσ Uσ
              exact zr_iret (pc := 85) hV dX11_load_85 rfl rfl ⟨_, rfl, (by omega), hσ82, hFσ82, trivial, Uσ82⟩
            · show V 64 [some (ZR 0), some (ZI sheet), some (ZI lane), some (ZI from_), some (ZI place), some (ZI n), some (ZI r54)] [] 284 σ
              refine zr_iload (pc := 64) hV dX11_load_64 rfl ?_
              exact zr_iret (pc := 66) hV dX11_load_66 rfl rfl ⟨_, rfl, (by omega), hσ, hFσ, trivial, Uσ⟩
          · show V 43 [some (ZR 0), some (ZI sheet), some (ZI lane), some (ZI from_), some (ZI place), some (ZI n), none] [] 284 σ
            refine zr_iconst (pc := 43) hV (-1) dX11_load_43 rfl ?_
            exact zr_iret (pc := 44) hV dX11_load_44 rfl rfl ⟨_, rfl, ⟨by decide, by decide⟩, hσ, hFσ, trivial, Uσ⟩
