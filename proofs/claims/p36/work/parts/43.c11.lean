set_option maxHeartbeats 800000 in
theorem c_X11_isPlace {σ : zq_S} (place : Int) (q0 : zq_in place) : zq_C zc_w yX11_isPlace cX11_isPlace 1 (some .boolean) 0 0 284 284 [ZI place] σ (zq_pp σ (fun r => (0 ≤ r ∧ r ≤ 1) ∧ (r = 1 ↔ 0 ≤ place ∧ place ≤ 63))) := by
  refine zq_C_of (by decide) (Nat.le_refl _) (Nat.le_of_ble_eq_true rfl) [some (ZI place)] rfl (fun V hV => ?_)
  show V 0 [some (ZI place)] [] 284 σ
  refine zr_iload_n (pc := 0) hV dX11_isPlace_0 rfl rfl ?_
  refine zr_if_lt (pc := 1) hV 14 dX11_isPlace_1 (by decide) (by omega) (fun c1 => ?_) (fun c1 => ?_)
  · show V 14 [some (ZI place)] [] 284 σ
    refine zr_iconst (pc := 14) hV 0 dX11_isPlace_14 rfl ?_
    show V 15 [some (ZI place)] [ZI 0] 284 σ
    exact zr_zret (pc := 15) hV dX11_isPlace_15 rfl rfl (by omega) ⟨rfl, _, rfl, ⟨by decide, by decide⟩, (by omega)⟩
  · show V 4 [some (ZI place)] [] 284 σ
    refine zr_iload_n (pc := 4) hV dX11_isPlace_4 rfl rfl ?_
    refine zr_bipush (pc := 5) hV 64 dX11_isPlace_5 (by decide) ?_
    refine zr_icmp_ge (pc := 7) hV 14 dX11_isPlace_7 (by decide) (by omega) ⟨by decide, by decide⟩ (fun c2 => ?_) (fun c2 => ?_)
    · show V 14 [some (ZI place)] [] 284 σ
      refine zr_iconst (pc := 14) hV 0 dX11_isPlace_14 rfl ?_
      show V 15 [some (ZI place)] [ZI 0] 284 σ
      exact zr_zret (pc := 15) hV dX11_isPlace_15 rfl rfl (by omega) ⟨rfl, _, rfl, ⟨by decide, by decide⟩, (by omega)⟩
    · show V 10 [some (ZI place)] [] 284 σ
      refine zr_iconst (pc := 10) hV 1 dX11_isPlace_10 rfl ?_
      refine zr_goto (pc := 11) hV 15 dX11_isPlace_11 (by decide) ?_
      show V 15 [some (ZI place)] [ZI 1] 284 σ
      exact zr_zret (pc := 15) hV dX11_isPlace_15 rfl rfl (by omega) ⟨rfl, _, rfl, ⟨by decide, by decide⟩, (by omega)⟩
set_option maxHeartbeats 800000 in
theorem c_X11_within {σ : zq_S} (n : Int) (least : Int) (most : Int) (q0 : zq_in n) (q1 : zq_in least) (q2 : zq_in most) : zq_C zc_w yX11_within cX11_within 3 (some .boolean) 0 0 284 284 [ZI n, ZI least, ZI most] σ (zq_pp σ (fun r => (0 ≤ r ∧ r ≤ 1) ∧ (r = 1 ↔ least ≤ n ∧ n ≤ most))) := by
  refine zq_C_of (by decide) (Nat.le_refl _) (Nat.le_of_ble_eq_true rfl) [some (ZI n), some (ZI least), some (ZI most)] rfl (fun V hV => ?_)
  show V 0 [some (ZI n), some (ZI least), some (ZI most)] [] 284 σ
  refine zr_iload_n (pc := 0) hV dX11_within_0 rfl rfl ?_
  refine zr_iload_n (pc := 1) hV dX11_within_1 rfl rfl ?_
  refine zr_icmp_lt (pc := 2) hV 14 dX11_within_2 (by decide) (by omega) (by omega) (fun c1 => ?_) (fun c1 => ?_)
  · show V 14 [some (ZI n), some (ZI least), some (ZI most)] [] 284 σ
    refine zr_iconst (pc := 14) hV 0 dX11_within_14 rfl ?_
    show V 15 [some (ZI n), some (ZI least), some (ZI most)] [ZI 0] 284 σ
    exact zr_zret (pc := 15) hV dX11_within_15 rfl rfl (by omega) ⟨rfl, _, rfl, ⟨by decide, by decide⟩, (by omega)⟩
  · show V 5 [some (ZI n), some (ZI least), some (ZI most)] [] 284 σ
    refine zr_iload_n (pc := 5) hV dX11_within_5 rfl rfl ?_
    refine zr_iload_n (pc := 6) hV dX11_within_6 rfl rfl ?_
    refine zr_icmp_gt (pc := 7) hV 14 dX11_within_7 (by decide) (by omega) (by omega) (fun c2 => ?_) (fun c2 => ?_)
    · show V 14 [some (ZI n), some (ZI least), some (ZI most)] [] 284 σ
      refine zr_iconst (pc := 14) hV 0 dX11_within_14 rfl ?_
      show V 15 [some (ZI n), some (ZI least), some (ZI most)] [ZI 0] 284 σ
      exact zr_zret (pc := 15) hV dX11_within_15 rfl rfl (by omega) ⟨rfl, _, rfl, ⟨by decide, by decide⟩, (by omega)⟩
    · show V 10 [some (ZI n), some (ZI least), some (ZI most)] [] 284 σ
      refine zr_iconst (pc := 10) hV 1 dX11_within_10 rfl ?_
      refine zr_goto (pc := 11) hV 15 dX11_within_11 (by decide) ?_
      show V 15 [some (ZI n), some (ZI least), some (ZI most)] [ZI 1] 284 σ
      exact zr_zret (pc := 15) hV dX11_within_15 rfl rfl (by omega) ⟨rfl, _, rfl, ⟨by decide, by decide⟩, (by omega)⟩
set_option maxHeartbeats 800000 in
theorem c_X11_shared {σ : zq_S} (hσ : zc_T σ)   (Uσ : zc_U σ) : zq_C zc_w yX11_shared cX11_shared 1 (some .int) 0 0 284 284 [ZR 0] σ (zq_pp σ (fun r => True)) := by
  refine zq_C_of (by decide) (Nat.le_refl _) (Nat.le_of_ble_eq_true rfl) [some (ZR 0)] rfl (fun V hV => ?_)
  show V 0 [some (ZR 0)] [] 284 σ
  refine zr_aload_n (pc := 0) hV dX11_shared_0 rfl rfl ?_
  refine zr_getR (pc := 1) hV 1 3 dX11_shared_1 fX11_19 rfl rfl (zc_k0 zc_s0) (zc_pos zc_s0 rfl) (zc_g0_1 hσ zc_s0) (by decide) ?_
  refine zr_getI (pc := 4) hV 4 dX11_shared_4 fX11_110 rfl rfl (zc_k3 zc_s3) (zc_pos zc_s3 rfl) ?_
  have t1 := zc_g3_4 hσ zc_s3
  exact zr_iret (pc := 7) hV dX11_shared_7 rfl rfl ⟨rfl, _, rfl, (by omega), trivial⟩
set_option maxHeartbeats 800000 in
theorem c_X11_about {σ : zq_S} (hσ : zc_T σ) (order : Int) (what : Int) (q0 : zq_in order) (q1 : zq_in what) (Uσ : zc_U σ) : zq_C zc_w yX11_about cX11_about 4 (some .int) 3 64 284 284 [ZR 0, ZI order, ZI what] σ (zq_pp σ (fun r => True)) := by
  refine zq_C_of (by decide) (Nat.le_refl _) (Nat.le_of_ble_eq_true rfl) [some (ZR 0), some (ZI order), some (ZI what), none] rfl (fun V hV => ?_)
  show V 0 [some (ZR 0), some (ZI order), some (ZI what), none] [] 284 σ
  refine zr_aload_n (pc := 0) hV dX11_about_0 rfl rfl ?_
  refine zr_getR (pc := 1) hV 1 3 dX11_about_1 fX11_19 rfl rfl (zc_k0 zc_s0) (zc_pos zc_s0 rfl) (zc_g0_1 hσ zc_s0) (by decide) ?_
  refine zr_iload_n (pc := 4) hV dX11_about_4 rfl rfl ?_
  refine zr_callVr (pc := 5) hV [ZI order] (st := []) (c_X9_numbered (σ := σ) hσ order (by omega)) dX11_about_5 mX11_117 (zc_k3 zc_s3) (zc_pos zc_s3 rfl) (by decide) (Nat.le_of_ble_eq_true rfl) (Nat.le_refl _) (fun r5 pr5 => ?_)
  refine zr_astore_nQ (pc := 8) hV [some (ZR 0), some (ZI order), some (ZI what), some (zq_nr r5)] dX11_about_8 rfl (by decide) rfl rfl ?_
  refine zr_aload_nQ (pc := 9) hV dX11_about_9 rfl rfl ?_
  by_cases c1 : r5 < 0
  · rw [zq_nr_n c1]
    refine zr_ifnonnullN (pc := 10) hV dX11_about_10 ?_
    show V 13 [some (ZR 0), some (ZI order), some (ZI what), some (ZN)] [] 284 σ
    refine zr_iconst (pc := 13) hV (-1) dX11_about_13 rfl ?_
    refine zr_goto (pc := 14) hV 22 dX11_about_14 (by decide) ?_
    show V 22 [some (ZR 0), some (ZI order), some (ZI what), some (ZN)] [ZI (-1)] 284 σ
    exact zr_iret (pc := 22) hV dX11_about_22 rfl rfl ⟨rfl, _, rfl, ⟨by decide, by decide⟩, trivial⟩
  · rw [zq_nr_p c1]
    have kr5 : zc_kd r5 = 4 := pr5.1 (by omega)
    have por5 := zc_pos kr5 rfl
    refine zr_ifnonnull (pc := 10) hV 17 dX11_about_10 (by decide) ?_
    show V 17 [some (ZR 0), some (ZI order), some (ZI what), some (ZR r5)] [] 284 σ
    refine zr_aload_n (pc := 17) hV dX11_about_17 rfl rfl ?_
    refine zr_iload_n (pc := 18) hV dX11_about_18 rfl rfl ?_
    refine zr_callVp (pc := 19) hV [ZI what] (st := []) (c_X3_tellAbout (σ := σ) hσ r5 kr5 what (by omega)) dX11_about_19 mX11_121 (zc_k4 kr5) (zc_pos kr5 rfl) (by decide) (Nat.le_of_ble_eq_true rfl) (Nat.le_refl _) (fun r19 hr19 pr19 => ?_)
    show V 22 [some (ZR 0), some (ZI order), some (ZI what), some (ZR r5)] [ZI r19] 284 σ
    exact zr_iret (pc := 22) hV dX11_about_22 rfl rfl ⟨rfl, _, rfl, (by omega), trivial⟩
set_option maxHeartbeats 800000 in
theorem c_X11_look {σ : zq_S} (hσ : zc_T σ) (bits : Int) (q0 : zq_in bits) (Uσ : zc_U σ) : zq_C zc_w yX11_look cX11_look 3 (some .int) 2 41 284 284 [ZR 0, ZI bits] σ (zq_pp σ (fun r => True)) := by
  refine zq_C_of (by decide) (Nat.le_refl _) (Nat.le_of_ble_eq_true rfl) [some (ZR 0), some (ZI bits), none] rfl (fun V hV => ?_)
  show V 0 [some (ZR 0), some (ZI bits), none] [] 284 σ
  refine zr_aload_n (pc := 0) hV dX11_look_0 rfl rfl ?_
  refine zr_getR (pc := 1) hV 1 3 dX11_look_1 fX11_19 rfl rfl (zc_k0 zc_s0) (zc_pos zc_s0 rfl) (zc_g0_1 hσ zc_s0) (by decide) ?_
  refine zr_iload_n (pc := 4) hV dX11_look_4 rfl rfl ?_
  refine zr_callVp (pc := 5) hV [ZI bits] (st := []) (c_X9_isBits (σ := σ) hσ bits (by omega)) dX11_look_5 mX11_127 (zc_k3 zc_s3) (zc_pos zc_s3 rfl) (by decide) (Nat.le_of_ble_eq_true rfl) (Nat.le_refl _) (fun r5 hr5 pr5 => ?_)
  refine zr_if_ne (pc := 8) hV 13 dX11_look_8 (by decide) (by omega) (fun c1 => ?_) (fun c1 => ?_)
  · show V 13 [some (ZR 0), some (ZI bits), none] [] 284 σ
    refine zr_aload_n (pc := 13) hV dX11_look_13 rfl rfl ?_
    refine zr_getR (pc := 14) hV 1 3 dX11_look_14 fX11_19 rfl rfl (zc_k0 zc_s0) (zc_pos zc_s0 rfl) (zc_g0_1 hσ zc_s0) (by decide) ?_
    refine zr_iload_n (pc := 17) hV dX11_look_17 rfl rfl ?_
    refine zr_callVp (pc := 18) hV [ZI bits] (st := []) (c_X9_numberOf (σ := σ) hσ bits (by omega)) dX11_look_18 mX11_131 (zc_k3 zc_s3) (zc_pos zc_s3 rfl) (by decide) (Nat.le_of_ble_eq_true rfl) (Nat.le_refl _) (fun r18 hr18 pr18 => ?_)
    refine zr_istore_n (pc := 21) hV [some (ZR 0), some (ZI bits), some (ZI r18)] dX11_look_21 rfl (by decide) rfl rfl ?_
    refine zr_iload_n (pc := 22) hV dX11_look_22 rfl rfl ?_
    refine zr_if_ge (pc := 23) hV 31 dX11_look_23 (by decide) (by omega) (fun c2 => ?_) (fun c2 => ?_)
    · show V 31 [some (ZR 0), some (ZI bits), some (ZI r18)] [] 284 σ
      refine zr_iload_n (pc := 31) hV dX11_look_31 rfl rfl ?_
      show V 32 [some (ZR 0), some (ZI bits), some (ZI r18)] [ZI r18] 284 σ
      exact zr_iret (pc := 32) hV dX11_look_32 rfl rfl ⟨rfl, _, rfl, (by omega), trivial⟩
    · show V 26 [some (ZR 0), some (ZI bits), some (ZI r18)] [] 284 σ
      refine zr_bipush (pc := 26) hV (-4) dX11_look_26 (by decide) ?_
      refine zr_goto (pc := 28) hV 32 dX11_look_28 (by decide) ?_
      show V 32 [some (ZR 0), some (ZI bits), some (ZI r18)] [ZI (-4)] 284 σ
      exact zr_iret (pc := 32) hV dX11_look_32 rfl rfl ⟨rfl, _, rfl, ⟨by decide, by decide⟩, trivial⟩
  · show V 11 [some (ZR 0), some (ZI bits), none] [] 284 σ
    refine zr_iconst (pc := 11) hV (-1) dX11_look_11 rfl ?_
    exact zr_iret (pc := 12) hV dX11_look_12 rfl rfl ⟨rfl, _, rfl, ⟨by decide, by decide⟩, trivial⟩
set_option maxHeartbeats 800000 in
theorem c_X11_field {σ : zq_S} (hσ : zc_T σ) (bits : Int) (f : Int) (q0 : zq_in bits) (q1 : zq_in f) (Uσ : zc_U σ) : zq_C zc_w yX11_field cX11_field 4 (some .int) 2 42 284 284 [ZR 0, ZI bits, ZI f] σ (zq_pp σ (fun r => True)) := by
  refine zq_C_of (by decide) (Nat.le_refl _) (Nat.le_of_ble_eq_true rfl) [some (ZR 0), some (ZI bits), some (ZI f), none] rfl (fun V hV => ?_)
  show V 0 [some (ZR 0), some (ZI bits), some (ZI f), none] [] 284 σ
  refine zr_aload_n (pc := 0) hV dX11_field_0 rfl rfl ?_
  refine zr_getR (pc := 1) hV 1 3 dX11_field_1 fX11_19 rfl rfl (zc_k0 zc_s0) (zc_pos zc_s0 rfl) (zc_g0_1 hσ zc_s0) (by decide) ?_
  refine zr_iload_n (pc := 4) hV dX11_field_4 rfl rfl ?_
  refine zr_callVp (pc := 5) hV [ZI bits] (st := []) (c_X9_isBits (σ := σ) hσ bits (by omega)) dX11_field_5 mX11_127 (zc_k3 zc_s3) (zc_pos zc_s3 rfl) (by decide) (Nat.le_of_ble_eq_true rfl) (Nat.le_refl _) (fun r5 hr5 pr5 => ?_)
  refine zr_if_eq (pc := 8) hV 20 dX11_field_8 (by decide) (by omega) (fun c1 => ?_) (fun c1 => ?_)
  · show V 20 [some (ZR 0), some (ZI bits), some (ZI f), none] [] 284 σ
    refine zr_iconst (pc := 20) hV (-1) dX11_field_20 rfl ?_
    exact zr_iret (pc := 21) hV dX11_field_21 rfl rfl ⟨rfl, _, rfl, ⟨by decide, by decide⟩, trivial⟩
  · show V 11 [some (ZR 0), some (ZI bits), some (ZI f), none] [] 284 σ
    refine zr_iload_n (pc := 11) hV dX11_field_11 rfl rfl ?_
    refine zr_iconst (pc := 12) hV 0 dX11_field_12 rfl ?_
    refine zr_iconst (pc := 13) hV 3 dX11_field_13 rfl ?_
    refine zr_callSp (pc := 14) hV [ZI f, ZI 0, ZI 3] (st := []) (c_X11_within (σ := σ) f 0 3 (by omega) (by omega) (by omega)) dX11_field_14 mX11_89 (by decide) (Nat.le_of_ble_eq_true rfl) (Nat.le_refl _) (fun r14 hr14 pr14 => ?_)
    refine zr_if_ne (pc := 17) hV 22 dX11_field_17 (by decide) (by omega) (fun c2 => ?_) (fun c2 => ?_)
    · show V 22 [some (ZR 0), some (ZI bits), some (ZI f), none] [] 284 σ
      refine zr_aload_n (pc := 22) hV dX11_field_22 rfl rfl ?_
      refine zr_getR (pc := 23) hV 1 3 dX11_field_23 fX11_19 rfl rfl (zc_k0 zc_s0) (zc_pos zc_s0 rfl) (zc_g0_1 hσ zc_s0) (by decide) ?_
      refine zr_iload_n (pc := 26) hV dX11_field_26 rfl rfl ?_
      refine zr_callVr (pc := 27) hV [ZI bits] (st := []) (c_X9_orderOf (σ := σ) hσ bits (by omega)) dX11_field_27 mX11_134 (zc_k3 zc_s3) (zc_pos zc_s3 rfl) (by decide) (Nat.le_of_ble_eq_true rfl) (Nat.le_refl _) (fun r27 pr27 => ?_)
      refine zr_astore_nQ (pc := 30) hV [some (ZR 0), some (ZI bits), some (ZI f), some (zq_nr r27)] dX11_field_30 rfl (by decide) rfl rfl ?_
      refine zr_aload_nQ (pc := 31) hV dX11_field_31 rfl rfl ?_
      by_cases c3 : r27 < 0
      · rw [zq_nr_n c3]
        refine zr_ifnullN (pc := 32) hV 43 dX11_field_32 (by decide) ?_
        show V 43 [some (ZR 0), some (ZI bits), some (ZI f), some (ZN)] [] 284 σ
        refine zr_bipush (pc := 43) hV (-4) dX11_field_43 (by decide) ?_
        refine zr_goto (pc := 45) hV 54 dX11_field_45 (by decide) ?_
        show V 54 [some (ZR 0), some (ZI bits), some (ZI f), some (ZN)] [ZI (-4)] 284 σ
        exact zr_iret (pc := 54) hV dX11_field_54 rfl rfl ⟨rfl, _, rfl, ⟨by decide, by decide⟩, trivial⟩
      · rw [zq_nr_p c3]
        have kr27 : zc_kd r27 = 4 := pr27.1 (by omega)
        have por27 := zc_pos kr27 rfl
        refine zr_ifnull (pc := 32) hV dX11_field_32 ?_
        show V 35 [some (ZR 0), some (ZI bits), some (ZI f), some (ZR r27)] [] 284 σ
        refine zr_aload_n (pc := 35) hV dX11_field_35 rfl rfl ?_
        refine zr_iload_n (pc := 36) hV dX11_field_36 rfl rfl ?_
        refine zr_callVp (pc := 37) hV [ZI f] (st := []) (c_X3_hasField (σ := σ) hσ r27 kr27 f (by omega)) dX11_field_37 mX11_137 (zc_k4 kr27) (zc_pos kr27 rfl) (by decide) (Nat.le_of_ble_eq_true rfl) (Nat.le_refl _) (fun r37 hr37 pr37 => ?_)
        refine zr_if_ne (pc := 40) hV 48 dX11_field_40 (by decide) (by omega) (fun c4 => ?_) (fun c4 => ?_)
        · show V 48 [some (ZR 0), some (ZI bits), some (ZI f), some (ZR r27)] [] 284 σ
          refine zr_aload_n (pc := 48) hV dX11_field_48 rfl rfl ?_
          refine zr_iload_n (pc := 49) hV dX11_field_49 rfl rfl ?_
          refine zr_iload_n (pc := 50) hV dX11_field_50 rfl rfl ?_
          refine zr_callVp (pc := 51) hV [ZI bits, ZI f] (st := []) (c_X3_fieldOf (σ := σ) hσ r27 kr27 bits f (by omega) (by omega)) dX11_field_51 mX11_140 (zc_k4 kr27) (zc_pos kr27 rfl) (by decide) (Nat.le_of_ble_eq_true rfl) (Nat.le_refl _) (fun r51 hr51 pr51 => ?_)
          show V 54 [some (ZR 0), some (ZI bits), some (ZI f), some (ZR r27)] [ZI r51] 284 σ
          exact zr_iret (pc := 54) hV dX11_field_54 rfl rfl ⟨rfl, _, rfl, (by omega), trivial⟩
        · show V 43 [some (ZR 0), some (ZI bits), some (ZI f), some (ZR r27)] [] 284 σ
          refine zr_bipush (pc := 43) hV (-4) dX11_field_43 (by decide) ?_
          refine zr_goto (pc := 45) hV 54 dX11_field_45 (by decide) ?_
          show V 54 [some (ZR 0), some (ZI bits), some (ZI f), some (ZR r27)] [ZI (-4)] 284 σ
          exact zr_iret (pc := 54) hV dX11_field_54 rfl rfl ⟨rfl, _, rfl, ⟨by decide, by decide⟩, trivial⟩
    · show V 20 [some (ZR 0), some (ZI bits), some (ZI f), none] [] 284 σ
      refine zr_iconst (pc := 20) hV (-1) dX11_field_20 rfl ?_
      exact zr_iret (pc := 21) hV dX11_field_21 rfl rfl ⟨rfl, _, rfl, ⟨by decide, by decide⟩, trivial⟩
set_option maxHeartbeats 800000 in
theorem c_X11_holes {σ : zq_S} (hσ : zc_T σ)   (Uσ : zc_U σ) : zq_C zc_w yX11_holes cX11_holes 1 (some .int) 2 42 284 284 [ZR 0] σ (zq_pp σ (fun r => True)) := by
  refine zq_C_of (by decide) (Nat.le_refl _) (Nat.le_of_ble_eq_true rfl) [some (ZR 0)] rfl (fun V hV => ?_)
  show V 0 [some (ZR 0)] [] 284 σ
  refine zr_aload_n (pc := 0) hV dX11_holes_0 rfl rfl ?_
  refine zr_getR (pc := 1) hV 1 3 dX11_holes_1 fX11_19 rfl rfl (zc_k0 zc_s0) (zc_pos zc_s0 rfl) (zc_g0_1 hσ zc_s0) (by decide) ?_
  refine zr_callVp (pc := 4) hV [] (st := []) (c_X9_countHoles (σ := σ) hσ) dX11_holes_4 mX11_144 (zc_k3 zc_s3) (zc_pos zc_s3 rfl) (by decide) (Nat.le_of_ble_eq_true rfl) (Nat.le_refl _) (fun r4 hr4 pr4 => ?_)
  exact zr_iret (pc := 7) hV dX11_holes_7 rfl rfl ⟨rfl, _, rfl, (by omega), trivial⟩
set_option maxHeartbeats 800000 in
theorem c_X11_hole {σ : zq_S} (hσ : zc_T σ) (from_ : Int) (q0 : zq_in from_) (Uσ : zc_U σ) : zq_C zc_w yX11_hole cX11_hole 2 (some .int) 2 42 284 284 [ZR 0, ZI from_] σ (zq_pp σ (fun r => True)) := by
  refine zq_C_of (by decide) (Nat.le_refl _) (Nat.le_of_ble_eq_true rfl) [some (ZR 0), some (ZI from_)] rfl (fun V hV => ?_)
  show V 0 [some (ZR 0), some (ZI from_)] [] 284 σ
  refine zr_aload_n (pc := 0) hV dX11_hole_0 rfl rfl ?_
  refine zr_getR (pc := 1) hV 1 3 dX11_hole_1 fX11_19 rfl rfl (zc_k0 zc_s0) (zc_pos zc_s0 rfl) (zc_g0_1 hσ zc_s0) (by decide) ?_
  refine zr_iload_n (pc := 4) hV dX11_hole_4 rfl rfl ?_
  refine zr_callVp (pc := 5) hV [ZI from_] (st := []) (c_X9_isBits (σ := σ) hσ from_ (by omega)) dX11_hole_5 mX11_127 (zc_k3 zc_s3) (zc_pos zc_s3 rfl) (by decide) (Nat.le_of_ble_eq_true rfl) (Nat.le_refl _) (fun r5 hr5 pr5 => ?_)
  refine zr_if_eq (pc := 8) hV 22 dX11_hole_8 (by decide) (by omega) (fun c1 => ?_) (fun c1 => ?_)
  · show V 22 [some (ZR 0), some (ZI from_)] [] 284 σ
    refine zr_iconst (pc := 22) hV (-1) dX11_hole_22 rfl ?_
    show V 23 [some (ZR 0), some (ZI from_)] [ZI (-1)] 284 σ
    exact zr_iret (pc := 23) hV dX11_hole_23 rfl rfl ⟨rfl, _, rfl, ⟨by decide, by decide⟩, trivial⟩
  · show V 11 [some (ZR 0), some (ZI from_)] [] 284 σ
    refine zr_aload_n (pc := 11) hV dX11_hole_11 rfl rfl ?_
    refine zr_getR (pc := 12) hV 1 3 dX11_hole_12 fX11_19 rfl rfl (zc_k0 zc_s0) (zc_pos zc_s0 rfl) (zc_g0_1 hσ zc_s0) (by decide) ?_
    refine zr_iload_n (pc := 15) hV dX11_hole_15 rfl rfl ?_
    refine zr_callVp (pc := 16) hV [ZI from_] (st := []) (c_X9_firstHole (σ := σ) hσ from_ (by omega)) dX11_hole_16 mX11_147 (zc_k3 zc_s3) (zc_pos zc_s3 rfl) (by decide) (Nat.le_of_ble_eq_true rfl) (Nat.le_refl _) (fun r16 hr16 pr16 => ?_)
    refine zr_goto (pc := 19) hV 23 dX11_hole_19 (by decide) ?_
    show V 23 [some (ZR 0), some (ZI from_)] [ZI r16] 284 σ
    exact zr_iret (pc := 23) hV dX11_hole_23 rfl rfl ⟨rfl, _, rfl, (by omega), trivial⟩
set_option maxHeartbeats 800000 in
theorem c_X11_count {σ : zq_S} (hσ : zc_T σ) (what : Int) (q0 : zq_in what) (Uσ : zc_U σ) : zq_C zc_w yX11_count cX11_count 2 (some .int) 1 20 284 284 [ZR 0, ZI what] σ (zq_pp σ (fun r => True)) := by
  refine zq_C_of (by decide) (Nat.le_refl _) (Nat.le_of_ble_eq_true rfl) [some (ZR 0), some (ZI what)] rfl (fun V hV => ?_)
  show V 0 [some (ZR 0), some (ZI what)] [] 284 σ
  refine zr_iload_n (pc := 0) hV dX11_count_0 rfl rfl ?_
  by_cases c1 : what = 0
  · refine zr_eqI (V := V) 0 c1 ?_
    refine zr_tableIn (pc := 1) hV 36 dX11_count_1 ⟨by decide, by decide⟩ (by decide) (by decide) rfl (by decide) ?_
    show V 36 [some (ZR 0), some (ZI what)] [] 284 σ
    refine zr_aload_n (pc := 36) hV dX11_count_36 rfl rfl ?_
    refine zr_getR (pc := 37) hV 1 3 dX11_count_37 fX11_19 rfl rfl (zc_k0 zc_s0) (zc_pos zc_s0 rfl) (zc_g0_1 hσ zc_s0) (by decide) ?_
    refine zr_getI (pc := 40) hV 3 dX11_count_40 fX11_150 rfl rfl (zc_k3 zc_s3) (zc_pos zc_s3 rfl) ?_
    have t2 := zc_g3_3 hσ zc_s3
    exact zr_iret (pc := 43) hV dX11_count_43 rfl rfl ⟨rfl, _, rfl, (by omega), trivial⟩
  by_cases c3 : what = 1
  · refine zr_eqI (V := V) 1 c3 ?_
    refine zr_tableIn (pc := 1) hV 44 dX11_count_1 ⟨by decide, by decide⟩ (by decide) (by decide) rfl (by decide) ?_
    show V 44 [some (ZR 0), some (ZI what)] [] 284 σ
    refine zr_aload_n (pc := 44) hV dX11_count_44 rfl rfl ?_
    refine zr_getR (pc := 45) hV 1 3 dX11_count_45 fX11_19 rfl rfl (zc_k0 zc_s0) (zc_pos zc_s0 rfl) (zc_g0_1 hσ zc_s0) (by decide) ?_
    refine zr_callVp (pc := 48) hV [] (st := []) (c_X9_registers (σ := σ) hσ) dX11_count_48 mX11_153 (zc_k3 zc_s3) (zc_pos zc_s3 rfl) (by decide) (Nat.le_of_ble_eq_true rfl) (Nat.le_refl _) (fun r48 hr48 pr48 => ?_)
    exact zr_iret (pc := 51) hV dX11_count_51 rfl rfl ⟨rfl, _, rfl, (by omega), trivial⟩
  by_cases c4 : what = 2
  · refine zr_eqI (V := V) 2 c4 ?_
    refine zr_tableIn (pc := 1) hV 52 dX11_count_1 ⟨by decide, by decide⟩ (by decide) (by decide) rfl (by decide) ?_
    show V 52 [some (ZR 0), some (ZI what)] [] 284 σ
    refine zr_aload_n (pc := 52) hV dX11_count_52 rfl rfl ?_
    refine zr_getR (pc := 53) hV 1 3 dX11_count_53 fX11_19 rfl rfl (zc_k0 zc_s0) (zc_pos zc_s0 rfl) (zc_g0_1 hσ zc_s0) (by decide) ?_
    refine zr_callVp (pc := 56) hV [] (st := []) (c_X9_wordMask (σ := σ) hσ) dX11_count_56 mX11_79 (zc_k3 zc_s3) (zc_pos zc_s3 rfl) (by decide) (Nat.le_of_ble_eq_true rfl) (Nat.le_refl _) (fun r56 hr56 pr56 => ?_)
    refine zr_iconst (pc := 59) hV 1 dX11_count_59 rfl ?_
    refine zr_iadd (pc := 60) hV dX11_count_60 ?_
    exact zr_iret (pc := 61) hV dX11_count_61 rfl rfl ⟨rfl, _, rfl, (by omega), trivial⟩
  by_cases c5 : what = 3
  · refine zr_eqI (V := V) 3 c5 ?_
    refine zr_tableIn (pc := 1) hV 62 dX11_count_1 ⟨by decide, by decide⟩ (by decide) (by decide) rfl (by decide) ?_
    show V 62 [some (ZR 0), some (ZI what)] [] 284 σ
    refine zr_aload_n (pc := 62) hV dX11_count_62 rfl rfl ?_
    refine zr_getR (pc := 63) hV 6 255 dX11_count_63 fX11_57 rfl rfl (zc_k0 zc_s0) (zc_pos zc_s0 rfl) (zc_g0_6 hσ zc_s0) (by decide) ?_
    refine zr_getI (pc := 66) hV 4 dX11_count_66 fX11_156 rfl rfl (zc_k255 zc_s255) (zc_pos zc_s255 rfl) ?_
    have t6 := zc_g255_4 hσ zc_s255
    exact zr_iret (pc := 69) hV dX11_count_69 rfl rfl ⟨rfl, _, rfl, (by omega), trivial⟩
  by_cases c7 : what = 4
  · refine zr_eqI (V := V) 4 c7 ?_
    refine zr_tableIn (pc := 1) hV 70 dX11_count_1 ⟨by decide, by decide⟩ (by decide) (by decide) rfl (by decide) ?_
    show V 70 [some (ZR 0), some (ZI what)] [] 284 σ
    refine zr_aload_n (pc := 70) hV dX11_count_70 rfl rfl ?_
    refine zr_getR (pc := 71) hV 5 140 dX11_count_71 fX11_48 rfl rfl (zc_k0 zc_s0) (zc_pos zc_s0 rfl) (zc_g0_5 hσ zc_s0) (by decide) ?_
    refine zr_getI (pc := 74) hV 12 dX11_count_74 fX11_159 rfl rfl (zc_k140 zc_s140) (zc_pos zc_s140 rfl) ?_
    have t8 := zc_g140_12 hσ zc_s140
    exact zr_iret (pc := 77) hV dX11_count_77 rfl rfl ⟨rfl, _, rfl, (by omega), trivial⟩
  refine zr_tableOut (pc := 1) hV 78 dX11_count_1 (by omega) (by omega) (by decide) ?_
  show V 78 [some (ZR 0), some (ZI what)] [] 284 σ
  refine zr_iconst (pc := 78) hV (-1) dX11_count_78 rfl ?_
  exact zr_iret (pc := 79) hV dX11_count_79 rfl rfl ⟨rfl, _, rfl, ⟨by decide, by decide⟩, trivial⟩
set_option maxHeartbeats 800000 in
theorem c_X11_reads {σ : zq_S} (hσ : zc_T σ) (order : Int) (q0 : zq_in order) (Uσ : zc_U σ) : zq_C zc_w yX11_reads cX11_reads 3 (some .int) 7 162 284 284 [ZR 0, ZI order] σ (zq_pi (fun r τ => zc_T τ ∧ zc_Fr [(4, 15), (134, 5), (135, -1), (136, -1), (137, -1), (138, -1)] σ τ ∧ (True) ∧ zc_U τ)) := by
  refine zq_C_of (by decide) (Nat.le_refl _) (Nat.le_of_ble_eq_true rfl) [some (ZR 0), some (ZI order), none] rfl (fun V hV => ?_)
  have hFσ := zc_Fr_rf [(4, 15), (134, 5), (135, -1), (136, -1), (137, -1), (138, -1)] σ
  show V 0 [some (ZR 0), some (ZI order), none] [] 284 σ
  refine zr_aload_n (pc := 0) hV dX11_reads_0 rfl rfl ?_
  refine zr_getR (pc := 1) hV 1 3 dX11_reads_1 fX11_19 rfl rfl (zc_k0 zc_s0) (zc_pos zc_s0 rfl) (zc_g0_1 hσ zc_s0) (by decide) ?_
  refine zr_iload_n (pc := 4) hV dX11_reads_4 rfl rfl ?_
  refine zr_callVr (pc := 5) hV [ZI order] (st := []) (c_X9_numbered (σ := σ) hσ order (by omega)) dX11_reads_5 mX11_117 (zc_k3 zc_s3) (zc_pos zc_s3 rfl) (by decide) (Nat.le_of_ble_eq_true rfl) (Nat.le_refl _) (fun r5 pr5 => ?_)
  refine zr_astore_nQ (pc := 8) hV [some (ZR 0), some (ZI order), some (zq_nr r5)] dX11_reads_8 rfl (by decide) rfl rfl ?_
  refine zr_aload_nQ (pc := 9) hV dX11_reads_9 rfl rfl ?_
  by_cases c1 : r5 < 0
  · rw [zq_nr_n c1]
    refine zr_ifnonnullN (pc := 10) hV dX11_reads_10 ?_
    show V 13 [some (ZR 0), some (ZI order), some (ZN)] [] 284 σ
    refine zr_iconst (pc := 13) hV (-1) dX11_reads_13 rfl ?_
    refine zr_goto (pc := 14) hV 25 dX11_reads_14 (by decide) ?_
    show V 25 [some (ZR 0), some (ZI order), some (ZN)] [ZI (-1)] 284 σ
    exact zr_iret (pc := 25) hV dX11_reads_25 rfl rfl ⟨_, rfl, ⟨by decide, by decide⟩, hσ, hFσ, trivial, Uσ⟩
  · rw [zq_nr_p c1]
    have kr5 : zc_kd r5 = 4 := pr5.1 (by omega)
    have por5 := zc_pos kr5 rfl
    refine zr_ifnonnull (pc := 10) hV 17 dX11_reads_10 (by decide) ?_
    show V 17 [some (ZR 0), some (ZI order), some (ZR r5)] [] 284 σ
    refine zr_aload_n (pc := 17) hV dX11_reads_17 rfl rfl ?_
    refine zr_getR (pc := 18) hV 3 134 dX11_reads_18 fX11_35 rfl rfl (zc_k0 zc_s0) (zc_pos zc_s0 rfl) (zc_g0_3 hσ zc_s0) (by decide) ?_
    refine zr_aload_n (pc := 21) hV dX11_reads_21 rfl rfl ?_
    refine zr_callVi (pc := 22) hV [ZR r5] (st := []) (c_X2_whatReads (σ := σ) hσ r5 kr5) dX11_reads_22 mX11_162 (zc_k134 zc_s134) (zc_pos zc_s134 rfl) (by decide) (Nat.le_of_ble_eq_true rfl) (Nat.le_refl _) (fun r22 σ22 hr22 pσ22 => ?_)
    obtain ⟨hσ22, hfσ22, pσ22⟩ := pσ22
    have hFσ22 := zc_Fc hfσ22 rfl hFσ
    have Uσ22 : zc_U σ22 := zc_U_fr hfσ22 rfl hσ Uσ
    show V 25 [some (ZR 0), some (ZI order), some (ZR r5)] [ZI r22] 284 σ22
    exact zr_iret (pc := 25) hV dX11_reads_25 rfl rfl ⟨_, rfl, (by omega), hσ22, hFσ22, trivial, Uσ22⟩
set_option maxHeartbeats 800000 in
theorem c_X11_writes {σ : zq_S} (hσ : zc_T σ) (order : Int) (q0 : zq_in order) (Uσ : zc_U σ) : zq_C zc_w yX11_writes cX11_writes 3 (some .int) 7 155 284 284 [ZR 0, ZI order] σ (zq_pi (fun r τ => zc_T τ ∧ zc_Fr [(4, 16), (134, 5), (135, -1), (136, -1), (138, -1)] σ τ ∧ (True) ∧ zc_U τ)) := by
  refine zq_C_of (by decide) (Nat.le_refl _) (Nat.le_of_ble_eq_true rfl) [some (ZR 0), some (ZI order), none] rfl (fun V hV => ?_)
  have hFσ := zc_Fr_rf [(4, 16), (134, 5), (135, -1), (136, -1), (138, -1)] σ
  show V 0 [some (ZR 0), some (ZI order), none] [] 284 σ
  refine zr_aload_n (pc := 0) hV dX11_writes_0 rfl rfl ?_
  refine zr_getR (pc := 1) hV 1 3 dX11_writes_1 fX11_19 rfl rfl (zc_k0 zc_s0) (zc_pos zc_s0 rfl) (zc_g0_1 hσ zc_s0) (by decide) ?_
  refine zr_iload_n (pc := 4) hV dX11_writes_4 rfl rfl ?_
  refine zr_callVr (pc := 5) hV [ZI order] (st := []) (c_X9_numbered (σ := σ) hσ order (by omega)) dX11_writes_5 mX11_117 (zc_k3 zc_s3) (zc_pos zc_s3 rfl) (by decide) (Nat.le_of_ble_eq_true rfl) (Nat.le_refl _) (fun r5 pr5 => ?_)
  refine zr_astore_nQ (pc := 8) hV [some (ZR 0), some (ZI order), some (zq_nr r5)] dX11_writes_8 rfl (by decide) rfl rfl ?_
  refine zr_aload_nQ (pc := 9) hV dX11_writes_9 rfl rfl ?_
  by_cases c1 : r5 < 0
  · rw [zq_nr_n c1]
    refine zr_ifnonnullN (pc := 10) hV dX11_writes_10 ?_
    show V 13 [some (ZR 0), some (ZI order), some (ZN)] [] 284 σ
    refine zr_iconst (pc := 13) hV (-1) dX11_writes_13 rfl ?_
    refine zr_goto (pc := 14) hV 25 dX11_writes_14 (by decide) ?_
    show V 25 [some (ZR 0), some (ZI order), some (ZN)] [ZI (-1)] 284 σ
    exact zr_iret (pc := 25) hV dX11_writes_25 rfl rfl ⟨_, rfl, ⟨by decide, by decide⟩, hσ, hFσ, trivial, Uσ⟩
  · rw [zq_nr_p c1]
    have kr5 : zc_kd r5 = 4 := pr5.1 (by omega)
    have por5 := zc_pos kr5 rfl
    refine zr_ifnonnull (pc := 10) hV 17 dX11_writes_10 (by decide) ?_
    show V 17 [some (ZR 0), some (ZI order), some (ZR r5)] [] 284 σ
    refine zr_aload_n (pc := 17) hV dX11_writes_17 rfl rfl ?_
    refine zr_getR (pc := 18) hV 3 134 dX11_writes_18 fX11_35 rfl rfl (zc_k0 zc_s0) (zc_pos zc_s0 rfl) (zc_g0_3 hσ zc_s0) (by decide) ?_
    refine zr_aload_n (pc := 21) hV dX11_writes_21 rfl rfl ?_
    refine zr_callVi (pc := 22) hV [ZR r5] (st := []) (c_X2_whatWrites (σ := σ) hσ r5 kr5) dX11_writes_22 mX11_166 (zc_k134 zc_s134) (zc_pos zc_s134 rfl) (by decide) (Nat.le_of_ble_eq_true rfl) (Nat.le_refl _) (fun r22 σ22 hr22 pσ22 => ?_)
    obtain ⟨hσ22, hfσ22, pσ22⟩ := pσ22
    have hFσ22 := zc_Fc hfσ22 rfl hFσ
    have Uσ22 : zc_U σ22 := zc_U_fr hfσ22 rfl hσ Uσ
    show V 25 [some (ZR 0), some (ZI order), some (ZR r5)] [ZI r22] 284 σ22
    exact zr_iret (pc := 25) hV dX11_writes_25 rfl rfl ⟨_, rfl, (by omega), hσ22, hFσ22, trivial, Uσ22⟩
set_option maxHeartbeats 800000 in
theorem c_X11_like {σ : zq_S} (hσ : zc_T σ) (a : Int) (b : Int) (q0 : zq_in a) (q1 : zq_in b) (Uσ : zc_U σ) : zq_C zc_w yX11_like cX11_like 5 (some .int) 6 132 284 284 [ZR 0, ZI a, ZI b] σ (zq_pi (fun r τ => zc_T τ ∧ zc_Fr [(134, 5), (135, -1), (136, -1), (137, -1), (138, -1)] σ τ ∧ (True) ∧ zc_U τ)) := by
  refine zq_C_of (by decide) (Nat.le_refl _) (Nat.le_of_ble_eq_true rfl) [some (ZR 0), some (ZI a), some (ZI b), none, none] rfl (fun V hV => ?_)
  have hFσ := zc_Fr_rf [(134, 5), (135, -1), (136, -1), (137, -1), (138, -1)] σ
  show V 0 [some (ZR 0), some (ZI a), some (ZI b), none, none] [] 284 σ
  refine zr_aload_n (pc := 0) hV dX11_like_0 rfl rfl ?_
  refine zr_getR (pc := 1) hV 1 3 dX11_like_1 fX11_19 rfl rfl (zc_k0 zc_s0) (zc_pos zc_s0 rfl) (zc_g0_1 hσ zc_s0) (by decide) ?_
  refine zr_iload_n (pc := 4) hV dX11_like_4 rfl rfl ?_
  refine zr_callVr (pc := 5) hV [ZI a] (st := []) (c_X9_numbered (σ := σ) hσ a (by omega)) dX11_like_5 mX11_117 (zc_k3 zc_s3) (zc_pos zc_s3 rfl) (by decide) (Nat.le_of_ble_eq_true rfl) (Nat.le_refl _) (fun r5 pr5 => ?_)
  refine zr_astore_nQ (pc := 8) hV [some (ZR 0), some (ZI a), some (ZI b), some (zq_nr r5), none] dX11_like_8 rfl (by decide) rfl rfl ?_
  refine zr_aload_n (pc := 9) hV dX11_like_9 rfl rfl ?_
  refine zr_getR (pc := 10) hV 1 3 dX11_like_10 fX11_19 rfl rfl (zc_k0 zc_s0) (zc_pos zc_s0 rfl) (zc_g0_1 hσ zc_s0) (by decide) ?_
  refine zr_iload_n (pc := 13) hV dX11_like_13 rfl rfl ?_
  refine zr_callVr (pc := 14) hV [ZI b] (st := []) (c_X9_numbered (σ := σ) hσ b (by omega)) dX11_like_14 mX11_117 (zc_k3 zc_s3) (zc_pos zc_s3 rfl) (by decide) (Nat.le_of_ble_eq_true rfl) (Nat.le_refl _) (fun r14 pr14 => ?_)
  refine zr_astoreQ (pc := 17) hV [some (ZR 0), some (ZI a), some (ZI b), some (zq_nr r5), some (zq_nr r14)] dX11_like_17 (by decide) (by simp only [zq_nr]; split <;> rfl) rfl ?_
  refine zr_aload_nQ (pc := 19) hV dX11_like_19 rfl rfl ?_
  by_cases c1 : r5 < 0
  · rw [zq_nr_n c1]
    refine zr_ifnullN (pc := 20) hV 28 dX11_like_20 (by decide) ?_
    show V 28 [some (ZR 0), some (ZI a), some (ZI b), some (ZN), some (zq_nr r14)] [] 284 σ
    refine zr_iconst (pc := 28) hV (-1) dX11_like_28 rfl ?_
    exact zr_iret (pc := 29) hV dX11_like_29 rfl rfl ⟨_, rfl, ⟨by decide, by decide⟩, hσ, hFσ, trivial, Uσ⟩
  · rw [zq_nr_p c1]
    have kr5 : zc_kd r5 = 4 := pr5.1 (by omega)
    have por5 := zc_pos kr5 rfl
    refine zr_ifnull (pc := 20) hV dX11_like_20 ?_
    show V 23 [some (ZR 0), some (ZI a), some (ZI b), some (ZR r5), some (zq_nr r14)] [] 284 σ
    refine zr_aloadQ (pc := 23) hV dX11_like_23 rfl ?_
    by_cases c2 : r14 < 0
    · rw [zq_nr_n c2]
      refine zr_ifnonnullN (pc := 25) hV dX11_like_25 ?_
      show V 28 [some (ZR 0), some (ZI a), some (ZI b), some (ZR r5), some (ZN)] [] 284 σ
      refine zr_iconst (pc := 28) hV (-1) dX11_like_28 rfl ?_
      exact zr_iret (pc := 29) hV dX11_like_29 rfl rfl ⟨_, rfl, ⟨by decide, by decide⟩, hσ, hFσ, trivial, Uσ⟩
    · rw [zq_nr_p c2]
      have kr14 : zc_kd r14 = 4 := pr14.1 (by omega)
      have por14 := zc_pos kr14 rfl
      refine zr_ifnonnull (pc := 25) hV 30 dX11_like_25 (by decide) ?_
      show V 30 [some (ZR 0), some (ZI a), some (ZI b), some (ZR r5), some (ZR r14)] [] 284 σ
      refine zr_aload_n (pc := 30) hV dX11_like_30 rfl rfl ?_
      refine zr_getR (pc := 31) hV 3 134 dX11_like_31 fX11_35 rfl rfl (zc_k0 zc_s0) (zc_pos zc_s0 rfl) (zc_g0_3 hσ zc_s0) (by decide) ?_
      refine zr_aload_n (pc := 34) hV dX11_like_34 rfl rfl ?_
      refine zr_aload (pc := 35) hV dX11_like_35 rfl ?_
      refine zr_callVi (pc := 37) hV [ZR r5, ZR r14] (st := []) (c_X2_leaveTheSame (σ := σ) hσ r5 kr5 r14 kr14) dX11_like_37 mX11_169 (zc_k134 zc_s134) (zc_pos zc_s134 rfl) (by decide) (Nat.le_of_ble_eq_true rfl) (Nat.le_refl _) (fun r37 σ37 hr37 pσ37 => ?_)
      obtain ⟨hσ37, hfσ37, pσ37⟩ := pσ37
      have hFσ37 := zc_Fc hfσ37 rfl hFσ
      have Uσ37 : zc_U σ37 := zc_U_fr hfσ37 rfl hσ Uσ
      refine zr_if_eq (pc := 40) hV 47 dX11_like_40 (by decide) (by omega) (fun c3 => ?_) (fun c3 => ?_)
      · show V 47 [some (ZR 0), some (ZI a), some (ZI b), some (ZR r5), some (ZR r14)] [] 284 σ37
        refine zr_iconst (pc := 47) hV 0 dX11_like_47 rfl ?_
        show V 48 [some (ZR 0), some (ZI a), some (ZI b), some (ZR r5), some (ZR r14)] [ZI 0] 284 σ37
        exact zr_iret (pc := 48) hV dX11_like_48 rfl rfl ⟨_, rfl, ⟨by decide, by decide⟩, hσ37, hFσ37, trivial, Uσ37⟩
      · show V 43 [some (ZR 0), some (ZI a), some (ZI b), some (ZR r5), some (ZR r14)] [] 284 σ37
        refine zr_iconst (pc := 43) hV 1 dX11_like_43 rfl ?_
        refine zr_goto (pc := 44) hV 48 dX11_like_44 (by decide) ?_
        show V 48 [some (ZR 0), some (ZI a), some (ZI b), some (ZR r5), some (ZR r14)] [ZI 1] 284 σ37
        exact zr_iret (pc := 48) hV dX11_like_48 rfl rfl ⟨_, rfl, ⟨by decide, by decide⟩, hσ37, hFσ37, trivial, Uσ37⟩
set_option maxHeartbeats 800000 in
theorem c_X11_code {σ : zq_S} (hσ : zc_T σ) (place : Int) (q0 : zq_in place) (Uσ : zc_U σ) : zq_C zc_w yX11_code cX11_code 2 (some .int) 1 20 284 284 [ZR 0, ZI place] σ (zq_pp σ (fun r => True)) := by
  refine zq_C_of (by decide) (Nat.le_refl _) (Nat.le_of_ble_eq_true rfl) [some (ZR 0), some (ZI place)] rfl (fun V hV => ?_)
  show V 0 [some (ZR 0), some (ZI place)] [] 284 σ
  refine zr_iload_n (pc := 0) hV dX11_code_0 rfl rfl ?_
  refine zr_callSp (pc := 1) hV [ZI place] (st := []) (c_X11_isPlace (σ := σ) place (by omega)) dX11_code_1 mX11_173 (by decide) (Nat.le_of_ble_eq_true rfl) (Nat.le_refl _) (fun r1 hr1 pr1 => ?_)
  refine zr_if_eq (pc := 4) hV 16 dX11_code_4 (by decide) (by omega) (fun c1 => ?_) (fun c1 => ?_)
  · show V 16 [some (ZR 0), some (ZI place)] [] 284 σ
    refine zr_iconst (pc := 16) hV (-1) dX11_code_16 rfl ?_
    show V 17 [some (ZR 0), some (ZI place)] [ZI (-1)] 284 σ
    exact zr_iret (pc := 17) hV dX11_code_17 rfl rfl ⟨rfl, _, rfl, ⟨by decide, by decide⟩, trivial⟩
  · show V 7 [some (ZR 0), some (ZI place)] [] 284 σ
    refine zr_aload_n (pc := 7) hV dX11_code_7 rfl rfl ?_
    refine zr_getR (pc := 8) hV 4 139 dX11_code_8 fX11_39 rfl rfl (zc_k0 zc_s0) (zc_pos zc_s0 rfl) (zc_g0_4 hσ zc_s0) (by decide) ?_
    refine zr_iload_n (pc := 11) hV dX11_code_11 rfl rfl ?_
    refine zr_iald (pc := 12) hV dX11_code_12 (zc_k139 zc_s139) (zc_pos zc_s139 rfl) rfl (by omega) ?_
    have t2 := zc_ga139 hσ zc_s139 place
    refine zr_goto (pc := 13) hV 17 dX11_code_13 (by decide) ?_
    show V 17 [some (ZR 0), some (ZI place)] [ZI (σ 139 place)] 284 σ
    exact zr_iret (pc := 17) hV dX11_code_17 rfl rfl ⟨rfl, _, rfl, (by omega), trivial⟩
set_option maxHeartbeats 800000 in
theorem c_X11_text {σ : zq_S} (hσ : zc_T σ) (bits : Int) (k : Int) (q0 : zq_in bits) (q1 : zq_in k) (Uσ : zc_U σ) : zq_C zc_w yX11_text cX11_text 4 (some .int) 3 66 284 284 [ZR 0, ZI bits, ZI k] σ (zq_pi (fun r τ => zc_T τ ∧ zc_Fr [(132, 3), (133, -1)] σ τ ∧ (True) ∧ zc_U τ)) := by
  refine zq_C_of (by decide) (Nat.le_refl _) (Nat.le_of_ble_eq_true rfl) [some (ZR 0), some (ZI bits), some (ZI k), none] rfl (fun V hV => ?_)
  have hFσ := zc_Fr_rf [(132, 3), (133, -1)] σ
  show V 0 [some (ZR 0), some (ZI bits), some (ZI k), none] [] 284 σ
  refine zr_aload_n (pc := 0) hV dX11_text_0 rfl rfl ?_
  refine zr_getR (pc := 1) hV 1 3 dX11_text_1 fX11_19 rfl rfl (zc_k0 zc_s0) (zc_pos zc_s0 rfl) (zc_g0_1 hσ zc_s0) (by decide) ?_
  refine zr_iload_n (pc := 4) hV dX11_text_4 rfl rfl ?_
  refine zr_callVp (pc := 5) hV [ZI bits] (st := []) (c_X9_isBits (σ := σ) hσ bits (by omega)) dX11_text_5 mX11_127 (zc_k3 zc_s3) (zc_pos zc_s3 rfl) (by decide) (Nat.le_of_ble_eq_true rfl) (Nat.le_refl _) (fun r5 hr5 pr5 => ?_)
  refine zr_if_eq (pc := 8) hV 16 dX11_text_8 (by decide) (by omega) (fun c1 => ?_) (fun c1 => ?_)
  · show V 16 [some (ZR 0), some (ZI bits), some (ZI k), none] [] 284 σ
    refine zr_iconst (pc := 16) hV (-1) dX11_text_16 rfl ?_
    exact zr_iret (pc := 17) hV dX11_text_17 rfl rfl ⟨_, rfl, ⟨by decide, by decide⟩, hσ, hFσ, trivial, Uσ⟩
  · show V 11 [some (ZR 0), some (ZI bits), some (ZI k), none] [] 284 σ
    refine zr_iload_n (pc := 11) hV dX11_text_11 rfl rfl ?_
    refine zr_iconst (pc := 12) hV (-1) dX11_text_12 rfl ?_
    refine zr_icmp_ge (pc := 13) hV 18 dX11_text_13 (by decide) (by omega) ⟨by decide, by decide⟩ (fun c2 => ?_) (fun c2 => ?_)
    · show V 18 [some (ZR 0), some (ZI bits), some (ZI k), none] [] 284 σ
      refine zr_aload_n (pc := 18) hV dX11_text_18 rfl rfl ?_
      refine zr_getR (pc := 19) hV 1 3 dX11_text_19 fX11_19 rfl rfl (zc_k0 zc_s0) (zc_pos zc_s0 rfl) (zc_g0_1 hσ zc_s0) (by decide) ?_
      refine zr_iload_n (pc := 22) hV dX11_text_22 rfl rfl ?_
      refine zr_callVr (pc := 23) hV [ZI bits] (st := []) (c_X9_orderOf (σ := σ) hσ bits (by omega)) dX11_text_23 mX11_134 (zc_k3 zc_s3) (zc_pos zc_s3 rfl) (by decide) (Nat.le_of_ble_eq_true rfl) (Nat.le_refl _) (fun r23 pr23 => ?_)
      refine zr_astore_nQ (pc := 26) hV [some (ZR 0), some (ZI bits), some (ZI k), some (zq_nr r23)] dX11_text_26 rfl (by decide) rfl rfl ?_
      refine zr_aload_nQ (pc := 27) hV dX11_text_27 rfl rfl ?_
      by_cases c3 : r23 < 0
      · rw [zq_nr_n c3]
        refine zr_ifnonnullN (pc := 28) hV dX11_text_28 ?_
        show V 31 [some (ZR 0), some (ZI bits), some (ZI k), some (ZN)] [] 284 σ
        refine zr_bipush (pc := 31) hV (-4) dX11_text_31 (by decide) ?_
        exact zr_iret (pc := 33) hV dX11_text_33 rfl rfl ⟨_, rfl, ⟨by decide, by decide⟩, hσ, hFσ, trivial, Uσ⟩
      · rw [zq_nr_p c3]
        have kr23 : zc_kd r23 = 4 := pr23.1 (by omega)
        have por23 := zc_pos kr23 rfl
        refine zr_ifnonnull (pc := 28) hV 34 dX11_text_28 (by decide) ?_
        show V 34 [some (ZR 0), some (ZI bits), some (ZI k), some (ZR r23)] [] 284 σ
        refine zr_aload_n (pc := 34) hV dX11_text_34 rfl rfl ?_
        refine zr_getR (pc := 35) hV 2 132 dX11_text_35 fX11_28 rfl rfl (zc_k0 zc_s0) (zc_pos zc_s0 rfl) (zc_g0_2 hσ zc_s0) (by decide) ?_
        refine zr_aload_n (pc := 38) hV dX11_text_38 rfl rfl ?_
        refine zr_iload_n (pc := 39) hV dX11_text_39 rfl rfl ?_
        refine zr_callVv (pc := 40) hV [ZR r23, ZI bits] (st := []) (c_X4_writeLine (σ := σ) hσ r23 kr23 bits (by omega)) dX11_text_40 mX11_218 (zc_k132 zc_s132) (zc_pos zc_s132 rfl) (by decide) (Nat.le_of_ble_eq_true rfl) (Nat.le_refl _) (fun σ40 pσ40 => ?_)
        obtain ⟨hσ40, hfσ40, pσ40⟩ := pσ40
        have hFσ40 := zc_Fc hfσ40 rfl hFσ
        have Uσ40 : zc_U σ40 := zc_U_fr hfσ40 rfl hσ Uσ
        refine zr_iload_n (pc := 43) hV dX11_text_43 rfl rfl ?_
        refine zr_iconst (pc := 44) hV (-1) dX11_text_44 rfl ?_
        refine zr_icmp_ne (pc := 45) hV 58 dX11_text_45 (by decide) (by omega) ⟨by decide, by decide⟩ (fun c4 => ?_) (fun c4 => ?_)
        · show V 58 [some (ZR 0), some (ZI bits), some (ZI k), some (ZR r23)] [] 284 σ40
          refine zr_aload_n (pc := 58) hV dX11_text_58 rfl rfl ?_
          refine zr_getR (pc := 59) hV 2 132 dX11_text_59 fX11_28 rfl rfl (zc_k0 zc_s0) (zc_pos zc_s0 rfl) (zc_g0_2 hσ40 zc_s0) (by decide) ?_
          refine zr_iload_n (pc := 62) hV dX11_text_62 rfl rfl ?_
          refine zr_callVp (pc := 63) hV [ZI k] (st := []) (c_X4_byteAt (σ := σ40) hσ40 k (by omega)) dX11_text_63 mX11_225 (zc_k132 zc_s132) (zc_pos zc_s132 rfl) (by decide) (Nat.le_of_ble_eq_true rfl) (Nat.le_refl _) (fun r63 hr63 pr63 => ?_)
          show V 66 [some (ZR 0), some (ZI bits), some (ZI k), some (ZR r23)] [ZI r63] 284 σ40
          exact zr_iret (pc := 66) hV dX11_text_66 rfl rfl ⟨_, rfl, (by omega), hσ40, hFσ40, trivial, Uσ40⟩
        · show V 48 [some (ZR 0), some (ZI bits), some (ZI k), some (ZR r23)] [] 284 σ40
          refine zr_aload_n (pc := 48) hV dX11_text_48 rfl rfl ?_
          refine zr_getR (pc := 49) hV 2 132 dX11_text_49 fX11_28 rfl rfl (zc_k0 zc_s0) (zc_pos zc_s0 rfl) (zc_g0_2 hσ40 zc_s0) (by decide) ?_
          refine zr_getI (pc := 52) hV 3 dX11_text_52 fX11_222 rfl rfl (zc_k132 zc_s132) (zc_pos zc_s132 rfl) ?_
          have t5 := zc_g132_3 hσ40 zc_s132
          refine zr_goto (pc := 55) hV 66 dX11_text_55 (by decide) ?_
          show V 66 [some (ZR 0), some (ZI bits), some (ZI k), some (ZR r23)] [ZI (σ40 132 3)] 284 σ40
          exact zr_iret (pc := 66) hV dX11_text_66 rfl rfl ⟨_, rfl, (by omega), hσ40, hFσ40, trivial, Uσ40⟩
    · show V 16 [some (ZR 0), some (ZI bits), some (ZI k), none] [] 284 σ
      refine zr_iconst (pc := 16) hV (-1) dX11_text_16 rfl ?_
      exact zr_iret (pc := 17) hV dX11_text_17 rfl rfl ⟨_, rfl, ⟨by decide, by decide⟩, hσ, hFσ, trivial, Uσ⟩
set_option maxHeartbeats 800000 in
theorem c_X11_price {σ : zq_S} (hσ : zc_T σ)   (Uσ : zc_U σ) : zq_C zc_w yX11_price cX11_price 1 (some .int) 6 135 284 284 [ZR 0] σ (zq_pi (fun r τ => zc_T τ ∧ zc_Fr [(272, -1), (273, -1)] σ τ ∧ (True) ∧ zc_U τ)) := by
  refine zq_C_of (by decide) (Nat.le_refl _) (Nat.le_of_ble_eq_true rfl) [some (ZR 0)] rfl (fun V hV => ?_)
  have hFσ := zc_Fr_rf [(272, -1), (273, -1)] σ
  show V 0 [some (ZR 0)] [] 284 σ
  refine zr_aload_n (pc := 0) hV dX11_price_0 rfl rfl ?_
  refine zr_getR (pc := 1) hV 6 255 dX11_price_1 fX11_57 rfl rfl (zc_k0 zc_s0) (zc_pos zc_s0 rfl) (zc_g0_6 hσ zc_s0) (by decide) ?_
  refine zr_getI (pc := 4) hV 3 dX11_price_4 fX11_240 rfl rfl (zc_k255 zc_s255) (zc_pos zc_s255 rfl) ?_
  have t1 := zc_g255_3 hσ zc_s255
  refine zr_if_eq (pc := 7) hV 20 dX11_price_7 (by decide) (by omega) (fun c2 => ?_) (fun c2 => ?_)
  · show V 20 [some (ZR 0)] [] 284 σ
    refine zr_bipush (pc := 20) hV (-2) dX11_price_20 (by decide) ?_
    show V 22 [some (ZR 0)] [ZI (-2)] 284 σ
    exact zr_iret (pc := 22) hV dX11_price_22 rfl rfl ⟨_, rfl, ⟨by decide, by decide⟩, hσ, hFσ, trivial, Uσ⟩
  · show V 10 [some (ZR 0)] [] 284 σ
    refine zr_aload_n (pc := 10) hV dX11_price_10 rfl rfl ?_
    refine zr_getR (pc := 11) hV 6 255 dX11_price_11 fX11_57 rfl rfl (zc_k0 zc_s0) (zc_pos zc_s0 rfl) (zc_g0_6 hσ zc_s0) (by decide) ?_
    have Nσ : zc_N σ := Uσ.2 (by omega)
    refine zr_callVi (pc := 14) hV [] (st := []) (c_X1_priceOfSum (σ := σ) hσ Nσ) dX11_price_14 mX11_244 (zc_k255 zc_s255) (zc_pos zc_s255 rfl) (by decide) (Nat.le_of_ble_eq_true rfl) (Nat.le_refl _) (fun r14 σ14 hr14 pσ14 => ?_)
    obtain ⟨hσ14, hfσ14, pσ14, Nσ14⟩ := pσ14
    have hFσ14 := zc_Fc hfσ14 rfl hFσ
    have Uσ14 : zc_U σ14 := zc_U_fr hfσ14 rfl hσ Uσ
    refine zr_goto (pc := 17) hV 22 dX11_price_17 (by decide) ?_
    show V 22 [some (ZR 0)] [ZI r14] 284 σ14
    exact zr_iret (pc := 22) hV dX11_price_22 rfl rfl ⟨_, rfl, (by omega), hσ14, hFσ14, trivial, Uσ14⟩
set_option maxHeartbeats 800000 in
theorem c_X11_value {σ : zq_S} (hσ : zc_T σ)   (Uσ : zc_U σ) : zq_C zc_w yX11_value cX11_value 1 (some .int) 2 46 284 284 [ZR 0] σ (zq_pi (fun r τ => zc_T τ ∧ zc_Fr [(261, -1)] σ τ ∧ (True) ∧ zc_U τ)) := by
  refine zq_C_of (by decide) (Nat.le_refl _) (Nat.le_of_ble_eq_true rfl) [some (ZR 0)] rfl (fun V hV => ?_)
  have hFσ := zc_Fr_rf [(261, -1)] σ
  show V 0 [some (ZR 0)] [] 284 σ
  refine zr_aload_n (pc := 0) hV dX11_value_0 rfl rfl ?_
  refine zr_getR (pc := 1) hV 6 255 dX11_value_1 fX11_57 rfl rfl (zc_k0 zc_s0) (zc_pos zc_s0 rfl) (zc_g0_6 hσ zc_s0) (by decide) ?_
  refine zr_getI (pc := 4) hV 3 dX11_value_4 fX11_240 rfl rfl (zc_k255 zc_s255) (zc_pos zc_s255 rfl) ?_
  have t1 := zc_g255_3 hσ zc_s255
  refine zr_if_eq (pc := 7) hV 40 dX11_value_7 (by decide) (by omega) (fun c2 => ?_) (fun c2 => ?_)
  · show V 40 [some (ZR 0)] [] 284 σ
    refine zr_bipush (pc := 40) hV (-2) dX11_value_40 (by decide) ?_
    show V 42 [some (ZR 0)] [ZI (-2)] 284 σ
    exact zr_iret (pc := 42) hV dX11_value_42 rfl rfl ⟨_, rfl, ⟨by decide, by decide⟩, hσ, hFσ, trivial, Uσ⟩
  · show V 10 [some (ZR 0)] [] 284 σ
    refine zr_aload_n (pc := 10) hV dX11_value_10 rfl rfl ?_
    refine zr_getR (pc := 11) hV 6 255 dX11_value_11 fX11_57 rfl rfl (zc_k0 zc_s0) (zc_pos zc_s0 rfl) (zc_g0_6 hσ zc_s0) (by decide) ?_
    obtain ⟨o14, eo14⟩ : ∃ o, σ 255 1 = o := ⟨_, rfl⟩
    have ko14 : zc_kd o14 = 256 := eo14 ▸ zc_g255_1 hσ zc_s255
    have po14 := zc_pos ko14 rfl
    refine zr_getR (pc := 14) hV 1 o14 dX11_value_14 fX11_232 rfl rfl (zc_k255 zc_s255) (zc_pos zc_s255 rfl) (by omega) (zc_pos ko14 rfl).1 ?_
    refine zr_aload_n (pc := 17) hV dX11_value_17 rfl rfl ?_
    refine zr_getR (pc := 18) hV 5 140 dX11_value_18 fX11_48 rfl rfl (zc_k0 zc_s0) (zc_pos zc_s0 rfl) (zc_g0_5 hσ zc_s0) (by decide) ?_
    refine zr_getR (pc := 21) hV 2 141 dX11_value_21 fX11_179 rfl rfl (zc_k140 zc_s140) (zc_pos zc_s140 rfl) (zc_g140_2 hσ zc_s140) (by decide) ?_
    refine zr_getR (pc := 24) hV 1 142 dX11_value_24 fX11_251 rfl rfl (zc_k141 zc_s141) (zc_pos zc_s141 rfl) (zc_g141_1 hσ zc_s141) (by decide) ?_
    refine zr_aload_n (pc := 27) hV dX11_value_27 rfl rfl ?_
    refine zr_getR (pc := 28) hV 1 3 dX11_value_28 fX11_19 rfl rfl (zc_k0 zc_s0) (zc_pos zc_s0 rfl) (zc_g0_1 hσ zc_s0) (by decide) ?_
    refine zr_callVp (pc := 31) hV [] (st := [ZR 142, ZR o14]) (c_X9_wordMask (σ := σ) hσ) dX11_value_31 mX11_79 (zc_k3 zc_s3) (zc_pos zc_s3 rfl) (by decide) (Nat.le_of_ble_eq_true rfl) (Nat.le_refl _) (fun r31 hr31 pr31 => ?_)
    refine zr_callVi (pc := 34) hV [ZR 142, ZI r31] (st := []) (c_X7_worth (σ := σ) hσ o14 ko14 r31 (by omega)) dX11_value_34 mX11_253 (zc_k256 ko14) (zc_pos ko14 rfl) (by decide) (Nat.le_of_ble_eq_true rfl) (Nat.le_refl _) (fun r34 σ34 hr34 pσ34 => ?_)
    obtain ⟨hσ34, hfσ34, pσ34⟩ := pσ34
    have hFσ34 := zc_Fc hfσ34 rfl hFσ
    have Uσ34 : zc_U σ34 := zc_U_fr hfσ34 rfl hσ Uσ
    refine zr_goto (pc := 37) hV 42 dX11_value_37 (by decide) ?_
    show V 42 [some (ZR 0)] [ZI r34] 284 σ34
    exact zr_iret (pc := 42) hV dX11_value_42 rfl rfl ⟨_, rfl, (by omega), hσ34, hFσ34, trivial, Uσ34⟩
set_option maxHeartbeats 800000 in
theorem c_X11_pairs {σ : zq_S} (hσ : zc_T σ) (a : Int) (b : Int) (end_ : Int) (q0 : zq_in a) (q1 : zq_in b) (q2 : zq_in end_) (Uσ : zc_U σ) : zq_C zc_w yX11_pairs cX11_pairs 4 (some .int) 4 93 284 284 [ZR 0, ZI a, ZI b, ZI end_] σ (zq_pp σ (fun r => True)) := by
  refine zq_C_of (by decide) (Nat.le_refl _) (Nat.le_of_ble_eq_true rfl) [some (ZR 0), some (ZI a), some (ZI b), some (ZI end_)] rfl (fun V hV => ?_)
  show V 0 [some (ZR 0), some (ZI a), some (ZI b), some (ZI end_)] [] 284 σ
  refine zr_aload_n (pc := 0) hV dX11_pairs_0 rfl rfl ?_
  refine zr_getR (pc := 1) hV 1 3 dX11_pairs_1 fX11_19 rfl rfl (zc_k0 zc_s0) (zc_pos zc_s0 rfl) (zc_g0_1 hσ zc_s0) (by decide) ?_
  refine zr_iload_n (pc := 4) hV dX11_pairs_4 rfl rfl ?_
  refine zr_callVr (pc := 5) hV [ZI a] (st := []) (c_X9_numbered (σ := σ) hσ a (by omega)) dX11_pairs_5 mX11_117 (zc_k3 zc_s3) (zc_pos zc_s3 rfl) (by decide) (Nat.le_of_ble_eq_true rfl) (Nat.le_refl _) (fun r5 pr5 => ?_)
  by_cases c1 : r5 < 0
  · rw [zq_nr_n c1]
    refine zr_ifnullN (pc := 8) hV 32 dX11_pairs_8 (by decide) ?_
    show V 32 [some (ZR 0), some (ZI a), some (ZI b), some (ZI end_)] [] 284 σ
    refine zr_iconst (pc := 32) hV (-1) dX11_pairs_32 rfl ?_
    exact zr_iret (pc := 33) hV dX11_pairs_33 rfl rfl ⟨rfl, _, rfl, ⟨by decide, by decide⟩, trivial⟩
  · rw [zq_nr_p c1]
    have kr5 : zc_kd r5 = 4 := pr5.1 (by omega)
    have por5 := zc_pos kr5 rfl
    refine zr_ifnull (pc := 8) hV dX11_pairs_8 ?_
    show V 11 [some (ZR 0), some (ZI a), some (ZI b), some (ZI end_)] [] 284 σ
    refine zr_aload_n (pc := 11) hV dX11_pairs_11 rfl rfl ?_
    refine zr_getR (pc := 12) hV 1 3 dX11_pairs_12 fX11_19 rfl rfl (zc_k0 zc_s0) (zc_pos zc_s0 rfl) (zc_g0_1 hσ zc_s0) (by decide) ?_
    refine zr_iload_n (pc := 15) hV dX11_pairs_15 rfl rfl ?_
    refine zr_callVr (pc := 16) hV [ZI b] (st := []) (c_X9_numbered (σ := σ) hσ b (by omega)) dX11_pairs_16 mX11_117 (zc_k3 zc_s3) (zc_pos zc_s3 rfl) (by decide) (Nat.le_of_ble_eq_true rfl) (Nat.le_refl _) (fun r16 pr16 => ?_)
    by_cases c2 : r16 < 0
    · rw [zq_nr_n c2]
      refine zr_ifnullN (pc := 19) hV 32 dX11_pairs_19 (by decide) ?_
      show V 32 [some (ZR 0), some (ZI a), some (ZI b), some (ZI end_)] [] 284 σ
      refine zr_iconst (pc := 32) hV (-1) dX11_pairs_32 rfl ?_
      exact zr_iret (pc := 33) hV dX11_pairs_33 rfl rfl ⟨rfl, _, rfl, ⟨by decide, by decide⟩, trivial⟩
    · rw [zq_nr_p c2]
      have kr16 : zc_kd r16 = 4 := pr16.1 (by omega)
      have por16 := zc_pos kr16 rfl
      refine zr_ifnull (pc := 19) hV dX11_pairs_19 ?_
      show V 22 [some (ZR 0), some (ZI a), some (ZI b), some (ZI end_)] [] 284 σ
      refine zr_iload_n (pc := 22) hV dX11_pairs_22 rfl rfl ?_
      refine zr_iconst (pc := 23) hV 0 dX11_pairs_23 rfl ?_
      refine zr_bipush (pc := 24) hV 64 dX11_pairs_24 (by decide) ?_
      refine zr_callSp (pc := 26) hV [ZI end_, ZI 0, ZI 64] (st := []) (c_X11_within (σ := σ) end_ 0 64 (by omega) (by omega) (by omega)) dX11_pairs_26 mX11_89 (by decide) (Nat.le_of_ble_eq_true rfl) (Nat.le_refl _) (fun r26 hr26 pr26 => ?_)
      refine zr_if_ne (pc := 29) hV 34 dX11_pairs_29 (by decide) (by omega) (fun c3 => ?_) (fun c3 => ?_)
      · show V 34 [some (ZR 0), some (ZI a), some (ZI b), some (ZI end_)] [] 284 σ
        refine zr_aload_n (pc := 34) hV dX11_pairs_34 rfl rfl ?_
        refine zr_getR (pc := 35) hV 1 3 dX11_pairs_35 fX11_19 rfl rfl (zc_k0 zc_s0) (zc_pos zc_s0 rfl) (zc_g0_1 hσ zc_s0) (by decide) ?_
        refine zr_aload_n (pc := 38) hV dX11_pairs_38 rfl rfl ?_
        refine zr_getR (pc := 39) hV 4 139 dX11_pairs_39 fX11_39 rfl rfl (zc_k0 zc_s0) (zc_pos zc_s0 rfl) (zc_g0_4 hσ zc_s0) (by decide) ?_
        refine zr_iload_n (pc := 42) hV dX11_pairs_42 rfl rfl ?_
        refine zr_iload_n (pc := 43) hV dX11_pairs_43 rfl rfl ?_
        refine zr_iload_n (pc := 44) hV dX11_pairs_44 rfl rfl ?_
        refine zr_callVp (pc := 45) hV [ZR 139, ZI a, ZI b, ZI end_] (st := []) (c_X9_countPairs (σ := σ) hσ a b end_ (by omega) (by omega) (by omega)) dX11_pairs_45 mX11_256 (zc_k3 zc_s3) (zc_pos zc_s3 rfl) (by decide) (Nat.le_of_ble_eq_true rfl) (Nat.le_refl _) (fun r45 hr45 pr45 => ?_)
        exact zr_iret (pc := 48) hV dX11_pairs_48 rfl rfl ⟨rfl, _, rfl, (by omega), trivial⟩
      · show V 32 [some (ZR 0), some (ZI a), some (ZI b), some (ZI end_)] [] 284 σ
        refine zr_iconst (pc := 32) hV (-1) dX11_pairs_32 rfl ?_
        exact zr_iret (pc := 33) hV dX11_pairs_33 rfl rfl ⟨rfl, _, rfl, ⟨by decide, by decide⟩, trivial⟩
set_option maxHeartbeats 800000 in
theorem c_X11_room {σ : zq_S} (hσ : zc_T σ) (a : Int) (b : Int) (q0 : zq_in a) (q1 : zq_in b) (Uσ : zc_U σ) : zq_C zc_w yX11_room cX11_room 5 (some .int) 5 111 284 284 [ZR 0, ZI a, ZI b] σ (zq_pp σ (fun r => True)) := by
  refine zq_C_of (by decide) (Nat.le_refl _) (Nat.le_of_ble_eq_true rfl) [some (ZR 0), some (ZI a), some (ZI b), none, none] rfl (fun V hV => ?_)
  show V 0 [some (ZR 0), some (ZI a), some (ZI b), none, none] [] 284 σ
  refine zr_aload_n (pc := 0) hV dX11_room_0 rfl rfl ?_
  refine zr_getR (pc := 1) hV 1 3 dX11_room_1 fX11_19 rfl rfl (zc_k0 zc_s0) (zc_pos zc_s0 rfl) (zc_g0_1 hσ zc_s0) (by decide) ?_
  refine zr_iload_n (pc := 4) hV dX11_room_4 rfl rfl ?_
  refine zr_callVr (pc := 5) hV [ZI a] (st := []) (c_X9_numbered (σ := σ) hσ a (by omega)) dX11_room_5 mX11_117 (zc_k3 zc_s3) (zc_pos zc_s3 rfl) (by decide) (Nat.le_of_ble_eq_true rfl) (Nat.le_refl _) (fun r5 pr5 => ?_)
  refine zr_astore_nQ (pc := 8) hV [some (ZR 0), some (ZI a), some (ZI b), some (zq_nr r5), none] dX11_room_8 rfl (by decide) rfl rfl ?_
  refine zr_aload_n (pc := 9) hV dX11_room_9 rfl rfl ?_
  refine zr_getR (pc := 10) hV 1 3 dX11_room_10 fX11_19 rfl rfl (zc_k0 zc_s0) (zc_pos zc_s0 rfl) (zc_g0_1 hσ zc_s0) (by decide) ?_
  refine zr_iload_n (pc := 13) hV dX11_room_13 rfl rfl ?_
  refine zr_callVr (pc := 14) hV [ZI b] (st := []) (c_X9_numbered (σ := σ) hσ b (by omega)) dX11_room_14 mX11_117 (zc_k3 zc_s3) (zc_pos zc_s3 rfl) (by decide) (Nat.le_of_ble_eq_true rfl) (Nat.le_refl _) (fun r14 pr14 => ?_)
  refine zr_astoreQ (pc := 17) hV [some (ZR 0), some (ZI a), some (ZI b), some (zq_nr r5), some (zq_nr r14)] dX11_room_17 (by decide) (by simp only [zq_nr]; split <;> rfl) rfl ?_
  refine zr_aload_nQ (pc := 19) hV dX11_room_19 rfl rfl ?_
  by_cases c1 : r5 < 0
  · rw [zq_nr_n c1]
    refine zr_ifnullN (pc := 20) hV 28 dX11_room_20 (by decide) ?_
    show V 28 [some (ZR 0), some (ZI a), some (ZI b), some (ZN), some (zq_nr r14)] [] 284 σ
    refine zr_iconst (pc := 28) hV (-1) dX11_room_28 rfl ?_
    refine zr_goto (pc := 29) hV 42 dX11_room_29 (by decide) ?_
    show V 42 [some (ZR 0), some (ZI a), some (ZI b), some (ZN), some (zq_nr r14)] [ZI (-1)] 284 σ
    exact zr_iret (pc := 42) hV dX11_room_42 rfl rfl ⟨rfl, _, rfl, ⟨by decide, by decide⟩, trivial⟩
  · rw [zq_nr_p c1]
    have kr5 : zc_kd r5 = 4 := pr5.1 (by omega)
    have por5 := zc_pos kr5 rfl
    refine zr_ifnull (pc := 20) hV dX11_room_20 ?_
    show V 23 [some (ZR 0), some (ZI a), some (ZI b), some (ZR r5), some (zq_nr r14)] [] 284 σ
    refine zr_aloadQ (pc := 23) hV dX11_room_23 rfl ?_
    by_cases c2 : r14 < 0
    · rw [zq_nr_n c2]
      refine zr_ifnonnullN (pc := 25) hV dX11_room_25 ?_
      show V 28 [some (ZR 0), some (ZI a), some (ZI b), some (ZR r5), some (ZN)] [] 284 σ
      refine zr_iconst (pc := 28) hV (-1) dX11_room_28 rfl ?_
      refine zr_goto (pc := 29) hV 42 dX11_room_29 (by decide) ?_
      show V 42 [some (ZR 0), some (ZI a), some (ZI b), some (ZR r5), some (ZN)] [ZI (-1)] 284 σ
      exact zr_iret (pc := 42) hV dX11_room_42 rfl rfl ⟨rfl, _, rfl, ⟨by decide, by decide⟩, trivial⟩
    · rw [zq_nr_p c2]
      have kr14 : zc_kd r14 = 4 := pr14.1 (by omega)
      have por14 := zc_pos kr14 rfl
      refine zr_ifnonnull (pc := 25) hV 32 dX11_room_25 (by decide) ?_
      show V 32 [some (ZR 0), some (ZI a), some (ZI b), some (ZR r5), some (ZR r14)] [] 284 σ
      refine zr_aload_n (pc := 32) hV dX11_room_32 rfl rfl ?_
      refine zr_getR (pc := 33) hV 1 3 dX11_room_33 fX11_19 rfl rfl (zc_k0 zc_s0) (zc_pos zc_s0 rfl) (zc_g0_1 hσ zc_s0) (by decide) ?_
      refine zr_aload_n (pc := 36) hV dX11_room_36 rfl rfl ?_
      refine zr_aload (pc := 37) hV dX11_room_37 rfl ?_
      refine zr_callVp (pc := 39) hV [ZR r5, ZR r14] (st := []) (c_X9_roomFor (σ := σ) hσ r5 kr5 r14 kr14) dX11_room_39 mX11_260 (zc_k3 zc_s3) (zc_pos zc_s3 rfl) (by decide) (Nat.le_of_ble_eq_true rfl) (Nat.le_refl _) (fun r39 hr39 pr39 => ?_)
      show V 42 [some (ZR 0), some (ZI a), some (ZI b), some (ZR r5), some (ZR r14)] [ZI r39] 284 σ
      exact zr_iret (pc := 42) hV dX11_room_42 rfl rfl ⟨rfl, _, rfl, (by omega), trivial⟩
set_option maxHeartbeats 800000 in
theorem c_X11_best {σ : zq_S} (hσ : zc_T σ) (end_ : Int) (q0 : zq_in end_) (Uσ : zc_U σ) : zq_C zc_w yX11_best cX11_best 2 (some .int) 6 138 284 284 [ZR 0, ZI end_] σ (zq_pp σ (fun r => True)) := by
  refine zq_C_of (by decide) (Nat.le_refl _) (Nat.le_of_ble_eq_true rfl) [some (ZR 0), some (ZI end_)] rfl (fun V hV => ?_)
  show V 0 [some (ZR 0), some (ZI end_)] [] 284 σ
  refine zr_iload_n (pc := 0) hV dX11_best_0 rfl rfl ?_
  refine zr_iconst (pc := 1) hV 0 dX11_best_1 rfl ?_
  refine zr_bipush (pc := 2) hV 64 dX11_best_2 (by decide) ?_
  refine zr_callSp (pc := 4) hV [ZI end_, ZI 0, ZI 64] (st := []) (c_X11_within (σ := σ) end_ 0 64 (by omega) (by omega) (by omega)) dX11_best_4 mX11_89 (by decide) (Nat.le_of_ble_eq_true rfl) (Nat.le_refl _) (fun r4 hr4 pr4 => ?_)
  refine zr_if_eq (pc := 7) hV 25 dX11_best_7 (by decide) (by omega) (fun c1 => ?_) (fun c1 => ?_)
  · show V 25 [some (ZR 0), some (ZI end_)] [] 284 σ
    refine zr_iconst (pc := 25) hV (-1) dX11_best_25 rfl ?_
    show V 26 [some (ZR 0), some (ZI end_)] [ZI (-1)] 284 σ
    exact zr_iret (pc := 26) hV dX11_best_26 rfl rfl ⟨rfl, _, rfl, ⟨by decide, by decide⟩, trivial⟩
  · show V 10 [some (ZR 0), some (ZI end_)] [] 284 σ
    refine zr_aload_n (pc := 10) hV dX11_best_10 rfl rfl ?_
    refine zr_getR (pc := 11) hV 1 3 dX11_best_11 fX11_19 rfl rfl (zc_k0 zc_s0) (zc_pos zc_s0 rfl) (zc_g0_1 hσ zc_s0) (by decide) ?_
    refine zr_aload_n (pc := 14) hV dX11_best_14 rfl rfl ?_
    refine zr_getR (pc := 15) hV 4 139 dX11_best_15 fX11_39 rfl rfl (zc_k0 zc_s0) (zc_pos zc_s0 rfl) (zc_g0_4 hσ zc_s0) (by decide) ?_
    refine zr_iload_n (pc := 18) hV dX11_best_18 rfl rfl ?_
    refine zr_callVp (pc := 19) hV [ZR 139, ZI end_] (st := []) (c_X9_bestPair (σ := σ) hσ end_ (by omega)) dX11_best_19 mX11_264 (zc_k3 zc_s3) (zc_pos zc_s3 rfl) (by decide) (Nat.le_of_ble_eq_true rfl) (Nat.le_refl _) (fun r19 hr19 pr19 => ?_)
    refine zr_goto (pc := 22) hV 26 dX11_best_22 (by decide) ?_
    show V 26 [some (ZR 0), some (ZI end_)] [ZI r19] 284 σ
    exact zr_iret (pc := 26) hV dX11_best_26 rfl rfl ⟨rfl, _, rfl, (by omega), trivial⟩
