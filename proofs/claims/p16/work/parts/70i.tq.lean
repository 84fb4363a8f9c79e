set_option maxHeartbeats 800000 in
theorem c_X11_shared_2 {σ : zq_S} (hσ : zc_T σ)   (Uσ : zc_U σ) : zq_C zc_w yX11_shared cX11_shared 1 (some .int) 0 0 284 284 [ZR 0] σ (zq_pp σ (fun r => r = σ 3 4)) := by
  refine zq_C_of (by decide) (Nat.le_refl _) (Nat.le_of_ble_eq_true rfl) [some (ZR 0)] rfl (fun V hV => ?_)
  show V 0 [some (ZR 0)] [] 284 σ
  refine zr_aload_n (pc := 0) hV dX11_shared_0 rfl rfl ?_
  refine zr_getR (pc := 1) hV 1 3 dX11_shared_1 fX11_19 rfl rfl (zc_k0 zc_s0) (zc_pos zc_s0 rfl) (zc_g0_1 hσ zc_s0) (by decide) ?_
  refine zr_getI (pc := 4) hV 4 dX11_shared_4 fX11_110 rfl rfl (zc_k3 zc_s3) (zc_pos zc_s3 rfl) ?_
  have t1 := zc_g3_4 hσ zc_s3
  exact zr_iret (pc := 7) hV dX11_shared_7 rfl rfl ⟨rfl, _, rfl, (by omega), (by omega)⟩
set_option maxHeartbeats 800000 in
theorem c_X9_registers_3 {σ : zq_S} (hσ : zc_T σ)   : zq_C zc_w yX9_registers cX9_registers 1 (some .int) 0 0 284 284 [ZR 3] σ (zq_pp σ (fun r => (1 ≤ r ∧ r ≤ 8) ∧ r = zx_p2 (σ 3 1))) := by
  refine zq_C_of (by decide) (Nat.le_refl _) (Nat.le_of_ble_eq_true rfl) [some (ZR 3)] rfl (fun V hV => ?_)
  show V 0 [some (ZR 3)] [] 284 σ
  refine zr_iconst (pc := 0) hV 1 dX9_registers_0 rfl ?_
  refine zr_aload_n (pc := 1) hV dX9_registers_1 rfl rfl ?_
  refine zr_getI (pc := 2) hV 1 dX9_registers_2 fX9_30 rfl rfl (zc_k3 zc_s3) (zc_pos zc_s3 rfl) ?_
  have t1 := zc_g3_1 hσ zc_s3
  refine zr_ishl (pc := 5) hV dX9_registers_5 ?_
  have t2 := zx_shl_one (y := σ 3 1) 3 8 (by decide) (by decide) (by omega)
  exact zr_iret (pc := 6) hV dX9_registers_6 rfl rfl ⟨rfl, _, rfl, (by omega), (by omega)⟩
set_option maxHeartbeats 800000 in
theorem c_X11_count_2 {σ : zq_S} (hσ : zc_T σ) (what : Int) (q0 : zq_in what) (Uσ : zc_U σ) : zq_C zc_w yX11_count cX11_count 2 (some .int) 1 20 284 284 [ZR 0, ZI what] σ (zq_pp σ (fun r => (what = 0 → r = σ 3 3) ∧ (what = 1 → r = zx_p2 (σ 3 1)) ∧ (what = 2 → r = zx_p2 (σ 3 0)) ∧ (what = 3 → r = σ 255 4) ∧ (what = 4 → r = σ 140 12) ∧ (¬ (0 ≤ what ∧ what ≤ 4) → r = -1))) := by
  refine zq_C_of (by decide) (Nat.le_refl _) (Nat.le_of_ble_eq_true rfl) [some (ZR 0), some (ZI what)] rfl (fun V hV => ?_)
  show V 0 [some (ZR 0), some (ZI what)] [] 284 σ
  refine zr_iload_n (pc := 0) hV dX11_count_0 rfl rfl ?_
  by_cases c1 : what = 0
  · refine zr_eqI (V := V) 0 c1 ?_
    refine zr_tableIn (pc := 1) hV 36 dX11_count_1 ⟨by decide, by decide⟩ (by decide) (by decide) rfl (by decide) ?_
    show V 36 [some (ZR 0), some (ZI what)] [] 284 σ
    refine zr_aload_n (pc := 36) hV dX11_count_36 rfl rfl ?_
    refine zr_getR (pc := 37) hV 1 3 dX11_count_37 fX11_19 rfl rfl (zc_k0 zc_s0) (zc_pos zc_s0 rfl) (zc_g0_1 hσ zc_s0) (by decide) ?_
    refine zr_getI (pc := 40) hV 3 dX11_count_40 fX11_150 rfl rfl (zc_k3 zc_s3) (zc_pos zc_s3 rfl) ?_
    have t2 := zc_g3_3 hσ zc_s3
    exact zr_iret (pc := 43) hV dX11_count_43 rfl rfl ⟨rfl, _, rfl, (by omega), (by omega)⟩
  by_cases c3 : what = 1
  · refine zr_eqI (V := V) 1 c3 ?_
    refine zr_tableIn (pc := 1) hV 44 dX11_count_1 ⟨by decide, by decide⟩ (by decide) (by decide) rfl (by decide) ?_
    show V 44 [some (ZR 0), some (ZI what)] [] 284 σ
    refine zr_aload_n (pc := 44) hV dX11_count_44 rfl rfl ?_
    refine zr_getR (pc := 45) hV 1 3 dX11_count_45 fX11_19 rfl rfl (zc_k0 zc_s0) (zc_pos zc_s0 rfl) (zc_g0_1 hσ zc_s0) (by decide) ?_
    refine zr_callVp (pc := 48) hV [] (st := []) (c_X9_registers_3 (σ := σ) hσ) dX11_count_48 mX11_153 (zc_k3 zc_s3) (zc_pos zc_s3 rfl) (by decide) (Nat.le_of_ble_eq_true rfl) (Nat.le_refl _) (fun r48 hr48 pr48 => ?_)
    have t4 := zc_g3_1 hσ zc_s3
    exact zr_iret (pc := 51) hV dX11_count_51 rfl rfl ⟨rfl, _, rfl, (by omega), (by omega)⟩
  by_cases c5 : what = 2
  · refine zr_eqI (V := V) 2 c5 ?_
    refine zr_tableIn (pc := 1) hV 52 dX11_count_1 ⟨by decide, by decide⟩ (by decide) (by decide) rfl (by decide) ?_
    show V 52 [some (ZR 0), some (ZI what)] [] 284 σ
    refine zr_aload_n (pc := 52) hV dX11_count_52 rfl rfl ?_
    refine zr_getR (pc := 53) hV 1 3 dX11_count_53 fX11_19 rfl rfl (zc_k0 zc_s0) (zc_pos zc_s0 rfl) (zc_g0_1 hσ zc_s0) (by decide) ?_
    refine zr_callVp (pc := 56) hV [] (st := []) (c_X9_wordMask_3 (σ := σ) hσ) dX11_count_56 mX11_79 (zc_k3 zc_s3) (zc_pos zc_s3 rfl) (by decide) (Nat.le_of_ble_eq_true rfl) (Nat.le_refl _) (fun r56 hr56 pr56 => ?_)
    have t6 := zc_g3_0 hσ zc_s3
    refine zr_iconst (pc := 59) hV 1 dX11_count_59 rfl ?_
    refine zr_iadd (pc := 60) hV dX11_count_60 ?_
    exact zr_iret (pc := 61) hV dX11_count_61 rfl rfl ⟨rfl, _, rfl, (by omega), (by omega)⟩
  by_cases c7 : what = 3
  · refine zr_eqI (V := V) 3 c7 ?_
    refine zr_tableIn (pc := 1) hV 62 dX11_count_1 ⟨by decide, by decide⟩ (by decide) (by decide) rfl (by decide) ?_
    show V 62 [some (ZR 0), some (ZI what)] [] 284 σ
    refine zr_aload_n (pc := 62) hV dX11_count_62 rfl rfl ?_
    refine zr_getR (pc := 63) hV 6 255 dX11_count_63 fX11_57 rfl rfl (zc_k0 zc_s0) (zc_pos zc_s0 rfl) (zc_g0_6 hσ zc_s0) (by decide) ?_
    refine zr_getI (pc := 66) hV 4 dX11_count_66 fX11_156 rfl rfl (zc_k255 zc_s255) (zc_pos zc_s255 rfl) ?_
    have t8 := zc_g255_4 hσ zc_s255
    exact zr_iret (pc := 69) hV dX11_count_69 rfl rfl ⟨rfl, _, rfl, (by omega), (by omega)⟩
  by_cases c9 : what = 4
  · refine zr_eqI (V := V) 4 c9 ?_
    refine zr_tableIn (pc := 1) hV 70 dX11_count_1 ⟨by decide, by decide⟩ (by decide) (by decide) rfl (by decide) ?_
    show V 70 [some (ZR 0), some (ZI what)] [] 284 σ
    refine zr_aload_n (pc := 70) hV dX11_count_70 rfl rfl ?_
    refine zr_getR (pc := 71) hV 5 140 dX11_count_71 fX11_48 rfl rfl (zc_k0 zc_s0) (zc_pos zc_s0 rfl) (zc_g0_5 hσ zc_s0) (by decide) ?_
    refine zr_getI (pc := 74) hV 12 dX11_count_74 fX11_159 rfl rfl (zc_k140 zc_s140) (zc_pos zc_s140 rfl) ?_
    have t10 := zc_g140_12 hσ zc_s140
    exact zr_iret (pc := 77) hV dX11_count_77 rfl rfl ⟨rfl, _, rfl, (by omega), (by omega)⟩
  refine zr_tableOut (pc := 1) hV 78 dX11_count_1 (by omega) (by omega) (by decide) ?_
  show V 78 [some (ZR 0), some (ZI what)] [] 284 σ
  refine zr_iconst (pc := 78) hV (-1) dX11_count_78 rfl ?_
  exact zr_iret (pc := 79) hV dX11_count_79 rfl rfl ⟨rfl, _, rfl, ⟨by decide, by decide⟩, (by omega)⟩
set_option maxHeartbeats 800000 in
theorem c_X3_fieldLetters_2 {σ : zq_S} (hσ : zc_T σ) (this : Int) (kthis : zc_kd this = 4)  : zq_C zc_w yX3_fieldLetters cX3_fieldLetters 3 (some .int) 1 21 284 284 [ZR this] σ (zq_pp σ (fun r => r = zu_fl (σ (this + 1)) 4)) := by
  refine zq_C_of (by decide) (Nat.le_refl _) (Nat.le_of_ble_eq_true rfl) [some (ZR this), none, none] rfl (fun V hV => ?_)
  have pothis := zc_pos kthis rfl
  show V 0 [some (ZR this), none, none] [] 284 σ
  refine zr_iconst (pc := 0) hV 0 dX3_fieldLetters_0 rfl ?_
  refine zr_istore_n (pc := 1) hV [some (ZR this), some (ZI 0), none] dX3_fieldLetters_1 rfl (by decide) rfl rfl ?_
  refine zr_iconst (pc := 2) hV 0 dX3_fieldLetters_2 rfl ?_
  refine zr_istore_n (pc := 3) hV [some (ZR this), some (ZI 0), some (ZI 0)] dX3_fieldLetters_3 rfl (by decide) rfl rfl ?_
  have L4 : ∀ (fuel : Nat) (x1_4 : Int) (x2_4 : Int), ((-2147483648) ≤ x1_4 ∧ x1_4 ≤ 2147483647) → (0 ≤ x2_4 ∧ x2_4 ≤ 4) → (x1_4 = zu_fl (σ (this + 1)) x2_4) → 4 - x2_4 < (fuel : Int) → V 4 [some (ZR this), some (ZI x1_4), some (ZI x2_4)] [] 284 σ := by
    intro fuel
    induction fuel with
    | zero =>
      intro x1_4 x2_4 hx1_4 hx2_4 hi4_0 hm4
      exfalso; omega
    | succ fuel ih =>
      intro x1_4 x2_4 hx1_4 hx2_4 hi4_0 hm4
      have ih4 := ih
      show V 4 [some (ZR this), some (ZI x1_4), some (ZI x2_4)] [] 284 σ
      refine zr_iload_n (pc := 4) hV dX3_fieldLetters_4 rfl rfl ?_
      refine zr_iconst (pc := 5) hV 3 dX3_fieldLetters_5 rfl ?_
      refine zr_icmp_gt (pc := 6) hV 33 dX3_fieldLetters_6 (by decide) (by omega) ⟨by decide, by decide⟩ (fun c1 => ?_) (fun c1 => ?_)
      · show V 33 [some (ZR this), some (ZI x1_4), some (ZI x2_4)] [] 284 σ
        refine zr_iload_n (pc := 33) hV dX3_fieldLetters_33 rfl rfl ?_
        exact zr_iret (pc := 34) hV dX3_fieldLetters_34 rfl rfl ⟨rfl, _, rfl, (by omega), (by rw [show (4 : Int) = x2_4 by omega]; exact hi4_0)⟩
      · show V 9 [some (ZR this), some (ZI x1_4), some (ZI x2_4)] [] 284 σ
        refine zr_iload_n (pc := 9) hV dX3_fieldLetters_9 rfl rfl ?_
        refine zr_aload_n (pc := 10) hV dX3_fieldLetters_10 rfl rfl ?_
        refine zr_iload_n (pc := 11) hV dX3_fieldLetters_11 rfl rfl ?_
        refine zr_callVp (pc := 12) hV [ZI x2_4] (st := [ZI x1_4]) (c_X3_hasField_2 (σ := σ) hσ this kthis x2_4 (by omega)) dX3_fieldLetters_12 mX3_83 (zc_k4 kthis) (zc_pos kthis rfl) (by decide) (Nat.le_of_ble_eq_true rfl) (Nat.le_refl _) (fun r12 hr12 pr12 => ?_)
        refine zr_if_eq (pc := 15) hV 24 dX3_fieldLetters_15 (by decide) (by omega) (fun c2 => ?_) (fun c2 => ?_)
        · show V 24 [some (ZR this), some (ZI x1_4), some (ZI x2_4)] [ZI x1_4] 284 σ
          refine zr_iconst (pc := 24) hV 0 dX3_fieldLetters_24 rfl ?_
          show V 25 [some (ZR this), some (ZI x1_4), some (ZI x2_4)] [ZI 0, ZI x1_4] 284 σ
          refine zr_ior (pc := 25) hV dX3_fieldLetters_25 ?_
          have t3 := zq_or_in x1_4 0
          refine zr_istore_n (pc := 26) hV [some (ZR this), some (ZI (zq_or x1_4 0)), some (ZI x2_4)] dX3_fieldLetters_26 rfl (by decide) rfl rfl ?_
          refine zr_iinc (pc := 27) hV [some (ZR this), some (ZI (zq_or x1_4 0)), some (ZI (x2_4 + 1))] (x2_4 + 1) dX3_fieldLetters_27 rfl rfl (by decide) rfl rfl ?_
          refine zr_goto (pc := 30) hV 4 dX3_fieldLetters_30 (by decide) ?_
          exact ih4 (zq_or x1_4 0) (x2_4 + 1) (by omega) (by omega) (by rw [(zu_fl_s (σ (this + 1)) (n := x2_4) (by omega)).2 (by omega), ← hi4_0]) (by omega)
        · show V 18 [some (ZR this), some (ZI x1_4), some (ZI x2_4)] [ZI x1_4] 284 σ
          refine zr_iconst (pc := 18) hV 1 dX3_fieldLetters_18 rfl ?_
          refine zr_iload_n (pc := 19) hV dX3_fieldLetters_19 rfl rfl ?_
          refine zr_ishl (pc := 20) hV dX3_fieldLetters_20 ?_
          have t4 := zx_shl_one (y := x2_4) 3 8 (by decide) (by decide) (by omega)
          refine zr_goto (pc := 21) hV 25 dX3_fieldLetters_21 (by decide) ?_
          show V 25 [some (ZR this), some (ZI x1_4), some (ZI x2_4)] [ZI (zq_shl 1 x2_4), ZI x1_4] 284 σ
          refine zr_ior (pc := 25) hV dX3_fieldLetters_25 ?_
          have t5 := zq_or_in x1_4 (zq_shl 1 x2_4)
          refine zr_istore_n (pc := 26) hV [some (ZR this), some (ZI (zq_or x1_4 (zq_shl 1 x2_4))), some (ZI x2_4)] dX3_fieldLetters_26 rfl (by decide) rfl rfl ?_
          refine zr_iinc (pc := 27) hV [some (ZR this), some (ZI (zq_or x1_4 (zq_shl 1 x2_4))), some (ZI (x2_4 + 1))] (x2_4 + 1) dX3_fieldLetters_27 rfl rfl (by decide) rfl rfl ?_
          refine zr_goto (pc := 30) hV 4 dX3_fieldLetters_30 (by decide) ?_
          exact ih4 (zq_or x1_4 (zq_shl 1 x2_4)) (x2_4 + 1) (by omega) (by omega) (by rw [(zu_fl_s (σ (this + 1)) (n := x2_4) (by omega)).1 (by omega), ← hi4_0]) (by omega)
  exact L4 (4 - (0 : Int) + 1 : Int).toNat 0 0 (by omega) (by omega) (zu_fl_0 _).symm (by omega)
set_option maxHeartbeats 800000 in
theorem c_X3_tellAbout_2 {σ : zq_S} (hσ : zc_T σ) (this : Int) (kthis : zc_kd this = 4) (what : Int) (q0 : zq_in what) : zq_C zc_w yX3_tellAbout cX3_tellAbout 2 (some .int) 2 43 284 284 [ZR this, ZI what] σ (zq_pp σ (fun r => zq_hid (zu_ab σ this what r))) := by
  refine zq_C_of (by decide) (Nat.le_refl _) (Nat.le_of_ble_eq_true rfl) [some (ZR this), some (ZI what)] rfl (fun V hV => ?_)
  have pothis := zc_pos kthis rfl
  show V 0 [some (ZR this), some (ZI what)] [] 284 σ
  refine zr_iload_n (pc := 0) hV dX3_tellAbout_0 rfl rfl ?_
  by_cases c1 : what = 0
  · refine zr_eqI (V := V) 0 c1 ?_
    refine zr_tableIn (pc := 1) hV 40 dX3_tellAbout_1 ⟨by decide, by decide⟩ (by decide) (by decide) rfl (by decide) ?_
    show V 40 [some (ZR this), some (ZI what)] [] 284 σ
    refine zr_aload_n (pc := 40) hV dX3_tellAbout_40 rfl rfl ?_
    refine zr_getI (pc := 41) hV 11 dX3_tellAbout_41 fX3_52 rfl rfl (zc_k4 kthis) (zc_pos kthis rfl) ?_
    have t2 := zc_g4_11 hσ kthis
    exact zr_iret (pc := 44) hV dX3_tellAbout_44 rfl rfl ⟨rfl, _, rfl, (by omega), ⟨fun _ => rfl, fun h => absurd h (by omega), fun h => absurd h (by omega), fun h => absurd h (by omega), fun h => absurd h (by omega), fun h => absurd h (by omega), fun h => absurd (by omega) h⟩⟩
  by_cases c3 : what = 1
  · refine zr_eqI (V := V) 1 c3 ?_
    refine zr_tableIn (pc := 1) hV 45 dX3_tellAbout_1 ⟨by decide, by decide⟩ (by decide) (by decide) rfl (by decide) ?_
    show V 45 [some (ZR this), some (ZI what)] [] 284 σ
    refine zr_aload_n (pc := 45) hV dX3_tellAbout_45 rfl rfl ?_
    refine zr_getI (pc := 46) hV 6 dX3_tellAbout_46 fX3_49 rfl rfl (zc_k4 kthis) (zc_pos kthis rfl) ?_
    have t4 := zc_g4_6 hσ kthis
    exact zr_iret (pc := 49) hV dX3_tellAbout_49 rfl rfl ⟨rfl, _, rfl, (by omega), ⟨fun h => absurd h (by omega), fun _ => rfl, fun h => absurd h (by omega), fun h => absurd h (by omega), fun h => absurd h (by omega), fun h => absurd h (by omega), fun h => absurd (by omega) h⟩⟩
  by_cases c5 : what = 2
  · refine zr_eqI (V := V) 2 c5 ?_
    refine zr_tableIn (pc := 1) hV 50 dX3_tellAbout_1 ⟨by decide, by decide⟩ (by decide) (by decide) rfl (by decide) ?_
    show V 50 [some (ZR this), some (ZI what)] [] 284 σ
    refine zr_aload_n (pc := 50) hV dX3_tellAbout_50 rfl rfl ?_
    refine zr_getI (pc := 51) hV 4 dX3_tellAbout_51 fX3_43 rfl rfl (zc_k4 kthis) (zc_pos kthis rfl) ?_
    have t6 := zc_g4_4 hσ kthis
    exact zr_iret (pc := 54) hV dX3_tellAbout_54 rfl rfl ⟨rfl, _, rfl, (by omega), ⟨fun h => absurd h (by omega), fun h => absurd h (by omega), fun _ => rfl, fun h => absurd h (by omega), fun h => absurd h (by omega), fun h => absurd h (by omega), fun h => absurd (by omega) h⟩⟩
  by_cases c7 : what = 3
  · refine zr_eqI (V := V) 3 c7 ?_
    refine zr_tableIn (pc := 1) hV 55 dX3_tellAbout_1 ⟨by decide, by decide⟩ (by decide) (by decide) rfl (by decide) ?_
    show V 55 [some (ZR this), some (ZI what)] [] 284 σ
    refine zr_aload_n (pc := 55) hV dX3_tellAbout_55 rfl rfl ?_
    refine zr_callVp (pc := 56) hV [] (st := []) (c_X3_fieldLetters_2 (σ := σ) hσ this kthis) dX3_tellAbout_56 mX3_89 (zc_k4 kthis) (zc_pos kthis rfl) (by decide) (Nat.le_of_ble_eq_true rfl) (Nat.le_refl _) (fun r56 hr56 pr56 => ?_)
    exact zr_iret (pc := 59) hV dX3_tellAbout_59 rfl rfl ⟨rfl, _, rfl, (by omega), ⟨fun h => absurd h (by omega), fun h => absurd h (by omega), fun h => absurd h (by omega), fun _ => pr56, fun h => absurd h (by omega), fun h => absurd h (by omega), fun h => absurd (by omega) h⟩⟩
  by_cases c8 : what = 4
  · refine zr_eqI (V := V) 4 c8 ?_
    refine zr_tableIn (pc := 1) hV 60 dX3_tellAbout_1 ⟨by decide, by decide⟩ (by decide) (by decide) rfl (by decide) ?_
    show V 60 [some (ZR this), some (ZI what)] [] 284 σ
    refine zr_aload_n (pc := 60) hV dX3_tellAbout_60 rfl rfl ?_
    refine zr_iconst (pc := 61) hV 3 dX3_tellAbout_61 rfl ?_
    refine zr_callVp (pc := 62) hV [ZI 3] (st := []) (c_X3_fieldBits_2 (σ := σ) hσ this kthis 3 (by omega)) dX3_tellAbout_62 mX3_93 (zc_k4 kthis) (zc_pos kthis rfl) (by decide) (Nat.le_of_ble_eq_true rfl) (Nat.le_refl _) (fun r62 hr62 pr62 => ?_)
    exact zr_iret (pc := 65) hV dX3_tellAbout_65 rfl rfl ⟨rfl, _, rfl, (by omega), ⟨fun h => absurd h (by omega), fun h => absurd h (by omega), fun h => absurd h (by omega), fun h => absurd h (by omega), fun _ => pr62.2, fun h => absurd h (by omega), fun h => absurd (by omega) h⟩⟩
  by_cases c9 : what = 5
  · refine zr_eqI (V := V) 5 c9 ?_
    refine zr_tableIn (pc := 1) hV 66 dX3_tellAbout_1 ⟨by decide, by decide⟩ (by decide) (by decide) rfl (by decide) ?_
    show V 66 [some (ZR this), some (ZI what)] [] 284 σ
    refine zr_aload_n (pc := 66) hV dX3_tellAbout_66 rfl rfl ?_
    refine zr_getI (pc := 67) hV 2 dX3_tellAbout_67 fX3_34 rfl rfl (zc_k4 kthis) (zc_pos kthis rfl) ?_
    have t10 := zc_g4_2 hσ kthis
    exact zr_iret (pc := 70) hV dX3_tellAbout_70 rfl rfl ⟨rfl, _, rfl, (by omega), ⟨fun h => absurd h (by omega), fun h => absurd h (by omega), fun h => absurd h (by omega), fun h => absurd h (by omega), fun h => absurd h (by omega), fun _ => rfl, fun h => absurd (by omega) h⟩⟩
  refine zr_tableOut (pc := 1) hV 71 dX3_tellAbout_1 (by omega) (by omega) (by decide) ?_
  show V 71 [some (ZR this), some (ZI what)] [] 284 σ
  refine zr_iconst (pc := 71) hV (-1) dX3_tellAbout_71 rfl ?_
  exact zr_iret (pc := 72) hV dX3_tellAbout_72 rfl rfl ⟨rfl, _, rfl, ⟨by decide, by decide⟩, ⟨fun h => absurd h (by omega), fun h => absurd h (by omega), fun h => absurd h (by omega), fun h => absurd h (by omega), fun h => absurd h (by omega), fun h => absurd h (by omega), fun _ => rfl⟩⟩
set_option maxHeartbeats 800000 in
theorem c_X11_about_2 {σ : zq_S} (hσ : zc_T σ) (order : Int) (what : Int) (q0 : zq_in order) (q1 : zq_in what) (Uσ : zc_U σ) : zq_C zc_w yX11_about cX11_about 4 (some .int) 3 64 284 284 [ZR 0, ZI order, ZI what] σ (zq_pp σ (fun r => zq_hid ((¬ (0 ≤ order ∧ order < σ 3 3) → r = -1) ∧ (0 ≤ order ∧ order < σ 3 3 → zu_ab σ (σ 10 order) what r)))) := by
  refine zq_C_of (by decide) (Nat.le_refl _) (Nat.le_of_ble_eq_true rfl) [some (ZR 0), some (ZI order), some (ZI what), none] rfl (fun V hV => ?_)
  show V 0 [some (ZR 0), some (ZI order), some (ZI what), none] [] 284 σ
  refine zr_aload_n (pc := 0) hV dX11_about_0 rfl rfl ?_
  refine zr_getR (pc := 1) hV 1 3 dX11_about_1 fX11_19 rfl rfl (zc_k0 zc_s0) (zc_pos zc_s0 rfl) (zc_g0_1 hσ zc_s0) (by decide) ?_
  refine zr_iload_n (pc := 4) hV dX11_about_4 rfl rfl ?_
  refine zr_callVr (pc := 5) hV [ZI order] (st := []) (c_X9_numbered_2 (σ := σ) hσ order (by omega)) dX11_about_5 mX11_117 (zc_k3 zc_s3) (zc_pos zc_s3 rfl) (by decide) (Nat.le_of_ble_eq_true rfl) (Nat.le_refl _) (fun r5 pr5 => ?_)
  refine zr_astore_nQ (pc := 8) hV [some (ZR 0), some (ZI order), some (ZI what), some (zq_nr r5)] dX11_about_8 rfl (by decide) rfl rfl ?_
  refine zr_aload_nQ (pc := 9) hV dX11_about_9 rfl rfl ?_
  by_cases c1 : r5 < 0
  · rw [zq_nr_n c1]
    refine zr_ifnonnullN (pc := 10) hV dX11_about_10 ?_
    show V 13 [some (ZR 0), some (ZI order), some (ZI what), some (ZN)] [] 284 σ
    refine zr_iconst (pc := 13) hV (-1) dX11_about_13 rfl ?_
    refine zr_goto (pc := 14) hV 22 dX11_about_14 (by decide) ?_
    show V 22 [some (ZR 0), some (ZI order), some (ZI what), some (ZN)] [ZI (-1)] 284 σ
    exact zr_iret (pc := 22) hV dX11_about_22 rfl rfl ⟨rfl, _, rfl, ⟨by decide, by decide⟩, ⟨fun _ => rfl, fun h => absurd h (pr5.2.2 (by omega))⟩⟩
  · rw [zq_nr_p c1]
    have kr5 : zc_kd r5 = 4 := pr5.1 (by omega)
    have por5 := zc_pos kr5 rfl
    refine zr_ifnonnull (pc := 10) hV 17 dX11_about_10 (by decide) ?_
    show V 17 [some (ZR 0), some (ZI order), some (ZI what), some (ZR r5)] [] 284 σ
    refine zr_aload_n (pc := 17) hV dX11_about_17 rfl rfl ?_
    refine zr_iload_n (pc := 18) hV dX11_about_18 rfl rfl ?_
    refine zr_callVp (pc := 19) hV [ZI what] (st := []) (c_X3_tellAbout_2 (σ := σ) hσ r5 kr5 what (by omega)) dX11_about_19 mX11_121 (zc_k4 kr5) (zc_pos kr5 rfl) (by decide) (Nat.le_of_ble_eq_true rfl) (Nat.le_refl _) (fun r19 hr19 pr19 => ?_)
    show V 22 [some (ZR 0), some (ZI order), some (ZI what), some (ZR r5)] [ZI r19] 284 σ
    exact zr_iret (pc := 22) hV dX11_about_22 rfl rfl ⟨rfl, _, rfl, (by omega), ⟨fun h => absurd ⟨(pr5.2.1 (by omega)).1, (pr5.2.1 (by omega)).2.1⟩ h, fun _ => by rw [← (pr5.2.1 (by omega)).2.2]; exact pr19⟩⟩
set_option maxHeartbeats 800000 in
theorem c_X9_isBits_2 {σ : zq_S} (hσ : zc_T σ) (bits : Int) (q0 : zq_in bits) : zq_C zc_w yX9_isBits cX9_isBits 2 (some .boolean) 1 20 284 284 [ZR 3, ZI bits] σ (zq_pp σ (fun r => (0 ≤ r ∧ r ≤ 1) ∧ (r = 1 → 0 ≤ bits ∧ bits ≤ 4095) ∧ (r = 1 ↔ 0 ≤ bits ∧ bits < zx_p2 (σ 3 2)))) := by
  refine zq_C_of (by decide) (Nat.le_refl _) (Nat.le_of_ble_eq_true rfl) [some (ZR 3), some (ZI bits)] rfl (fun V hV => ?_)
  show V 0 [some (ZR 3), some (ZI bits)] [] 284 σ
  refine zr_iload_n (pc := 0) hV dX9_isBits_0 rfl rfl ?_
  refine zr_if_lt (pc := 1) hV 16 dX9_isBits_1 (by decide) (by omega) (fun c1 => ?_) (fun c1 => ?_)
  · show V 16 [some (ZR 3), some (ZI bits)] [] 284 σ
    refine zr_iconst (pc := 16) hV 0 dX9_isBits_16 rfl ?_
    show V 17 [some (ZR 3), some (ZI bits)] [ZI 0] 284 σ
    exact zr_zret (pc := 17) hV dX9_isBits_17 rfl rfl (by omega) ⟨rfl, _, rfl, ⟨by decide, by decide⟩, (by omega)⟩
  · show V 4 [some (ZR 3), some (ZI bits)] [] 284 σ
    refine zr_iload_n (pc := 4) hV dX9_isBits_4 rfl rfl ?_
    refine zr_aload_n (pc := 5) hV dX9_isBits_5 rfl rfl ?_
    refine zr_callVp (pc := 6) hV [] (st := [ZI bits]) (c_X9_bitsInAll_2 (σ := σ) hσ) dX9_isBits_6 mX9_48 (zc_k3 zc_s3) (zc_pos zc_s3 rfl) (by decide) (Nat.le_of_ble_eq_true rfl) (Nat.le_refl _) (fun r6 hr6 pr6 => ?_)
    have t2 := zc_g3_2 hσ zc_s3
    refine zr_icmp_ge (pc := 9) hV 16 dX9_isBits_9 (by decide) (by omega) (by omega) (fun c3 => ?_) (fun c3 => ?_)
    · show V 16 [some (ZR 3), some (ZI bits)] [] 284 σ
      refine zr_iconst (pc := 16) hV 0 dX9_isBits_16 rfl ?_
      show V 17 [some (ZR 3), some (ZI bits)] [ZI 0] 284 σ
      exact zr_zret (pc := 17) hV dX9_isBits_17 rfl rfl (by omega) ⟨rfl, _, rfl, ⟨by decide, by decide⟩, (by omega)⟩
    · show V 12 [some (ZR 3), some (ZI bits)] [] 284 σ
      refine zr_iconst (pc := 12) hV 1 dX9_isBits_12 rfl ?_
      refine zr_goto (pc := 13) hV 17 dX9_isBits_13 (by decide) ?_
      show V 17 [some (ZR 3), some (ZI bits)] [ZI 1] 284 σ
      exact zr_zret (pc := 17) hV dX9_isBits_17 rfl rfl (by omega) ⟨rfl, _, rfl, ⟨by decide, by decide⟩, (by omega)⟩
set_option maxHeartbeats 800000 in
theorem c_X11_look_2 {σ : zq_S} (hσ : zc_T σ) (bits : Int) (q0 : zq_in bits) (Uσ : zc_U σ) : zq_C zc_w yX11_look cX11_look 3 (some .int) 2 41 284 284 [ZR 0, ZI bits] σ (zq_pp σ (fun r => (¬ (0 ≤ bits ∧ bits < zx_p2 (σ 3 2)) → r = -1) ∧ (0 ≤ bits ∧ bits < zx_p2 (σ 3 2) → (σ 11 bits < 0 → r = -4) ∧ (0 ≤ σ 11 bits → r = σ 11 bits)))) := by
  refine zq_C_of (by decide) (Nat.le_refl _) (Nat.le_of_ble_eq_true rfl) [some (ZR 0), some (ZI bits), none] rfl (fun V hV => ?_)
  show V 0 [some (ZR 0), some (ZI bits), none] [] 284 σ
  refine zr_aload_n (pc := 0) hV dX11_look_0 rfl rfl ?_
  refine zr_getR (pc := 1) hV 1 3 dX11_look_1 fX11_19 rfl rfl (zc_k0 zc_s0) (zc_pos zc_s0 rfl) (zc_g0_1 hσ zc_s0) (by decide) ?_
  refine zr_iload_n (pc := 4) hV dX11_look_4 rfl rfl ?_
  refine zr_callVp (pc := 5) hV [ZI bits] (st := []) (c_X9_isBits_2 (σ := σ) hσ bits (by omega)) dX11_look_5 mX11_127 (zc_k3 zc_s3) (zc_pos zc_s3 rfl) (by decide) (Nat.le_of_ble_eq_true rfl) (Nat.le_refl _) (fun r5 hr5 pr5 => ?_)
  have t1 := zc_g3_2 hσ zc_s3
  refine zr_if_ne (pc := 8) hV 13 dX11_look_8 (by decide) (by omega) (fun c2 => ?_) (fun c2 => ?_)
  · show V 13 [some (ZR 0), some (ZI bits), none] [] 284 σ
    refine zr_aload_n (pc := 13) hV dX11_look_13 rfl rfl ?_
    refine zr_getR (pc := 14) hV 1 3 dX11_look_14 fX11_19 rfl rfl (zc_k0 zc_s0) (zc_pos zc_s0 rfl) (zc_g0_1 hσ zc_s0) (by decide) ?_
    refine zr_iload_n (pc := 17) hV dX11_look_17 rfl rfl ?_
    refine zr_callVp (pc := 18) hV [ZI bits] (st := []) (c_X9_numberOf_2 (σ := σ) hσ bits (by omega)) dX11_look_18 mX11_131 (zc_k3 zc_s3) (zc_pos zc_s3 rfl) (by decide) (Nat.le_of_ble_eq_true rfl) (Nat.le_refl _) (fun r18 hr18 pr18 => ?_)
    refine zr_istore_n (pc := 21) hV [some (ZR 0), some (ZI bits), some (ZI r18)] dX11_look_21 rfl (by decide) rfl rfl ?_
    refine zr_iload_n (pc := 22) hV dX11_look_22 rfl rfl ?_
    refine zr_if_ge (pc := 23) hV 31 dX11_look_23 (by decide) (by omega) (fun c3 => ?_) (fun c3 => ?_)
    · show V 31 [some (ZR 0), some (ZI bits), some (ZI r18)] [] 284 σ
      refine zr_iload_n (pc := 31) hV dX11_look_31 rfl rfl ?_
      show V 32 [some (ZR 0), some (ZI bits), some (ZI r18)] [ZI r18] 284 σ
      exact zr_iret (pc := 32) hV dX11_look_32 rfl rfl ⟨rfl, _, rfl, (by omega), (by omega)⟩
    · show V 26 [some (ZR 0), some (ZI bits), some (ZI r18)] [] 284 σ
      refine zr_bipush (pc := 26) hV (-4) dX11_look_26 (by decide) ?_
      refine zr_goto (pc := 28) hV 32 dX11_look_28 (by decide) ?_
      show V 32 [some (ZR 0), some (ZI bits), some (ZI r18)] [ZI (-4)] 284 σ
      exact zr_iret (pc := 32) hV dX11_look_32 rfl rfl ⟨rfl, _, rfl, ⟨by decide, by decide⟩, (by omega)⟩
  · show V 11 [some (ZR 0), some (ZI bits), none] [] 284 σ
    refine zr_iconst (pc := 11) hV (-1) dX11_look_11 rfl ?_
    exact zr_iret (pc := 12) hV dX11_look_12 rfl rfl ⟨rfl, _, rfl, ⟨by decide, by decide⟩, (by omega)⟩
set_option maxHeartbeats 800000 in
theorem c_X9_firstHole_2 {σ : zq_S} (hσ : zc_T σ) (from_ : Int) (q0 : 0 ≤ from_ ∧ from_ ≤ 4095) : zq_C zc_w yX9_firstHole cX9_firstHole 3 (some .int) 1 20 284 284 [ZR 3, ZI from_] σ (zq_pp σ (fun r => zq_hid (zu_first (fun y => σ 11 y = -1) from_ (zx_p2 (σ 3 2)) r))) := by
  refine zq_C_of (by decide) (Nat.le_refl _) (Nat.le_of_ble_eq_true rfl) [some (ZR 3), some (ZI from_), none] rfl (fun V hV => ?_)
  show V 0 [some (ZR 3), some (ZI from_), none] [] 284 σ
  refine zr_iload_n (pc := 0) hV dX9_firstHole_0 rfl rfl ?_
  refine zr_istore_n (pc := 1) hV [some (ZR 3), some (ZI from_), some (ZI from_)] dX9_firstHole_1 rfl (by decide) rfl rfl ?_
  have L2 : ∀ (fuel : Nat) (x2_2 : Int), (0 ≤ x2_2 ∧ x2_2 ≤ 4096) → (zq_hid (∀ y, from_ ≤ y → y < x2_2 → ¬ (σ 11 y = -1))) → (from_ ≤ x2_2) → 4096 - x2_2 < (fuel : Int) → V 2 [some (ZR 3), none, some (ZI x2_2)] [] 284 σ := by
    intro fuel
    induction fuel with
    | zero =>
      intro x2_2 hx2_2 hi2_0 hi2_1 hm2
      exfalso; omega
    | succ fuel ih =>
      intro x2_2 hx2_2 hi2_0 hi2_1 hm2
      have ih2 := ih
      show V 2 [some (ZR 3), none, some (ZI x2_2)] [] 284 σ
      refine zr_iload_n (pc := 2) hV dX9_firstHole_2 rfl rfl ?_
      refine zr_aload_n (pc := 3) hV dX9_firstHole_3 rfl rfl ?_
      refine zr_callVp (pc := 4) hV [] (st := [ZI x2_2]) (c_X9_bitsInAll_2 (σ := σ) hσ) dX9_firstHole_4 mX9_48 (zc_k3 zc_s3) (zc_pos zc_s3 rfl) (by decide) (Nat.le_of_ble_eq_true rfl) (Nat.le_refl _) (fun r4 hr4 pr4 => ?_)
      have t1 := zc_g3_2 hσ zc_s3
      refine zr_icmp_ge (pc := 7) hV 28 dX9_firstHole_7 (by decide) (by omega) (by omega) (fun c2 => ?_) (fun c2 => ?_)
      · show V 28 [some (ZR 3), none, some (ZI x2_2)] [] 284 σ
        refine zr_bipush (pc := 28) hV (-4) dX9_firstHole_28 (by decide) ?_
        exact zr_iret (pc := 30) hV dX9_firstHole_30 rfl rfl ⟨rfl, _, rfl, ⟨by decide, by decide⟩, ⟨fun h => absurd h (by decide), fun _ => ⟨rfl, fun y h0 h1 => hi2_0 y h0 (by omega)⟩⟩⟩
      · show V 10 [some (ZR 3), none, some (ZI x2_2)] [] 284 σ
        refine zr_aload_n (pc := 10) hV dX9_firstHole_10 rfl rfl ?_
        refine zr_getR (pc := 11) hV 7 11 dX9_firstHole_11 fX9_22 rfl rfl (zc_k3 zc_s3) (zc_pos zc_s3 rfl) (zc_g3_7 hσ zc_s3) (by decide) ?_
        refine zr_iload_n (pc := 14) hV dX9_firstHole_14 rfl rfl ?_
        refine zr_iald (pc := 15) hV dX9_firstHole_15 (zc_k11 zc_s11) (zc_pos zc_s11 rfl) rfl (by omega) ?_
        have t3 := zc_ga11 hσ zc_s11 x2_2
        refine zr_iconst (pc := 16) hV (-1) dX9_firstHole_16 rfl ?_
        refine zr_icmp_ne (pc := 17) hV 22 dX9_firstHole_17 (by decide) (by omega) ⟨by decide, by decide⟩ (fun c4 => ?_) (fun c4 => ?_)
        · show V 22 [some (ZR 3), none, some (ZI x2_2)] [] 284 σ
          refine zr_iinc (pc := 22) hV [some (ZR 3), none, some (ZI (x2_2 + 1))] (x2_2 + 1) dX9_firstHole_22 rfl rfl (by decide) rfl rfl ?_
          refine zr_goto (pc := 25) hV 2 dX9_firstHole_25 (by decide) ?_
          exact ih2 (x2_2 + 1) (by omega) (fun y h0 h1 => if hc : y = x2_2 then (by rw [hc]; exact fun q => absurd q (by omega)) else hi2_0 y h0 (by omega)) (by omega) (by omega)
        · show V 20 [some (ZR 3), none, some (ZI x2_2)] [] 284 σ
          refine zr_iload_n (pc := 20) hV dX9_firstHole_20 rfl rfl ?_
          exact zr_iret (pc := 21) hV dX9_firstHole_21 rfl rfl ⟨rfl, _, rfl, (by omega), ⟨fun _ => ⟨by omega, by omega, by omega, hi2_0⟩, fun h => absurd h (by omega)⟩⟩
  refine zr_sub (pc := 2) hV [some (ZR 3), none, some (ZI from_)] (⟨rfl, rfl, trivial⟩) ?_
  exact L2 (4096 - from_ + 1 : Int).toNat from_ (by omega) (fun y h0 h1 => absurd h1 (by omega)) (by omega) (by omega)
set_option maxHeartbeats 800000 in
theorem c_X11_hole_2 {σ : zq_S} (hσ : zc_T σ) (from_ : Int) (q0 : zq_in from_) (Uσ : zc_U σ) : zq_C zc_w yX11_hole cX11_hole 2 (some .int) 2 42 284 284 [ZR 0, ZI from_] σ (zq_pp σ (fun r => (¬ (0 ≤ from_ ∧ from_ < zx_p2 (σ 3 2)) → r = -1) ∧ zq_hid (0 ≤ from_ ∧ from_ < zx_p2 (σ 3 2) → zu_first (fun y => σ 11 y = -1) from_ (zx_p2 (σ 3 2)) r))) := by
  refine zq_C_of (by decide) (Nat.le_refl _) (Nat.le_of_ble_eq_true rfl) [some (ZR 0), some (ZI from_)] rfl (fun V hV => ?_)
  show V 0 [some (ZR 0), some (ZI from_)] [] 284 σ
  refine zr_aload_n (pc := 0) hV dX11_hole_0 rfl rfl ?_
  refine zr_getR (pc := 1) hV 1 3 dX11_hole_1 fX11_19 rfl rfl (zc_k0 zc_s0) (zc_pos zc_s0 rfl) (zc_g0_1 hσ zc_s0) (by decide) ?_
  refine zr_iload_n (pc := 4) hV dX11_hole_4 rfl rfl ?_
  refine zr_callVp (pc := 5) hV [ZI from_] (st := []) (c_X9_isBits_2 (σ := σ) hσ from_ (by omega)) dX11_hole_5 mX11_127 (zc_k3 zc_s3) (zc_pos zc_s3 rfl) (by decide) (Nat.le_of_ble_eq_true rfl) (Nat.le_refl _) (fun r5 hr5 pr5 => ?_)
  have t1 := zc_g3_2 hσ zc_s3
  refine zr_if_eq (pc := 8) hV 22 dX11_hole_8 (by decide) (by omega) (fun c2 => ?_) (fun c2 => ?_)
  · show V 22 [some (ZR 0), some (ZI from_)] [] 284 σ
    refine zr_iconst (pc := 22) hV (-1) dX11_hole_22 rfl ?_
    show V 23 [some (ZR 0), some (ZI from_)] [ZI (-1)] 284 σ
    exact zr_iret (pc := 23) hV dX11_hole_23 rfl rfl ⟨rfl, _, rfl, ⟨by decide, by decide⟩, ⟨fun _ => by omega, fun h => absurd h (by omega)⟩⟩
  · show V 11 [some (ZR 0), some (ZI from_)] [] 284 σ
    refine zr_aload_n (pc := 11) hV dX11_hole_11 rfl rfl ?_
    refine zr_getR (pc := 12) hV 1 3 dX11_hole_12 fX11_19 rfl rfl (zc_k0 zc_s0) (zc_pos zc_s0 rfl) (zc_g0_1 hσ zc_s0) (by decide) ?_
    refine zr_iload_n (pc := 15) hV dX11_hole_15 rfl rfl ?_
    refine zr_callVp (pc := 16) hV [ZI from_] (st := []) (c_X9_firstHole_2 (σ := σ) hσ from_ (by omega)) dX11_hole_16 mX11_147 (zc_k3 zc_s3) (zc_pos zc_s3 rfl) (by decide) (Nat.le_of_ble_eq_true rfl) (Nat.le_refl _) (fun r16 hr16 pr16 => ?_)
    have t3 := zc_g3_2 hσ zc_s3
    refine zr_goto (pc := 19) hV 23 dX11_hole_19 (by decide) ?_
    show V 23 [some (ZR 0), some (ZI from_)] [ZI r16] 284 σ
    exact zr_iret (pc := 23) hV dX11_hole_23 rfl rfl ⟨rfl, _, rfl, (by omega), ⟨fun h => absurd (by omega) h, fun _ => pr16⟩⟩
set_option maxHeartbeats 800000 in
theorem c_X11_room_2 {σ : zq_S} (hσ : zc_T σ) (a : Int) (b : Int) (q0 : zq_in a) (q1 : zq_in b) (q2 : ∀ i, 0 ≤ i → i < σ 3 3 → 0 ≤ σ (σ 10 i) 11 ∧ σ (σ 10 i) 11 ≤ 1000) (Uσ : zc_U σ) : zq_C zc_w yX11_room cX11_room 5 (some .int) 5 111 284 284 [ZR 0, ZI a, ZI b] σ (zq_pp σ (fun r => zq_hid ((¬ (0 ≤ a ∧ a < σ 3 3 ∧ 0 ≤ b ∧ b < σ 3 3) → r = -1) ∧ (0 ≤ a ∧ a < σ 3 3 ∧ 0 ≤ b ∧ b < σ 3 3 → zu_rc σ (σ 10 a) (σ 10 b) r)))) := by
  refine zq_C_of (by decide) (Nat.le_refl _) (Nat.le_of_ble_eq_true rfl) [some (ZR 0), some (ZI a), some (ZI b), none, none] rfl (fun V hV => ?_)
  show V 0 [some (ZR 0), some (ZI a), some (ZI b), none, none] [] 284 σ
  refine zr_aload_n (pc := 0) hV dX11_room_0 rfl rfl ?_
  refine zr_getR (pc := 1) hV 1 3 dX11_room_1 fX11_19 rfl rfl (zc_k0 zc_s0) (zc_pos zc_s0 rfl) (zc_g0_1 hσ zc_s0) (by decide) ?_
  refine zr_iload_n (pc := 4) hV dX11_room_4 rfl rfl ?_
  refine zr_callVr (pc := 5) hV [ZI a] (st := []) (c_X9_numbered_2 (σ := σ) hσ a (by omega)) dX11_room_5 mX11_117 (zc_k3 zc_s3) (zc_pos zc_s3 rfl) (by decide) (Nat.le_of_ble_eq_true rfl) (Nat.le_refl _) (fun r5 pr5 => ?_)
  refine zr_astore_nQ (pc := 8) hV [some (ZR 0), some (ZI a), some (ZI b), some (zq_nr r5), none] dX11_room_8 rfl (by decide) rfl rfl ?_
  refine zr_aload_n (pc := 9) hV dX11_room_9 rfl rfl ?_
  refine zr_getR (pc := 10) hV 1 3 dX11_room_10 fX11_19 rfl rfl (zc_k0 zc_s0) (zc_pos zc_s0 rfl) (zc_g0_1 hσ zc_s0) (by decide) ?_
  refine zr_iload_n (pc := 13) hV dX11_room_13 rfl rfl ?_
  refine zr_callVr (pc := 14) hV [ZI b] (st := []) (c_X9_numbered_2 (σ := σ) hσ b (by omega)) dX11_room_14 mX11_117 (zc_k3 zc_s3) (zc_pos zc_s3 rfl) (by decide) (Nat.le_of_ble_eq_true rfl) (Nat.le_refl _) (fun r14 pr14 => ?_)
  refine zr_astoreQ (pc := 17) hV [some (ZR 0), some (ZI a), some (ZI b), some (zq_nr r5), some (zq_nr r14)] dX11_room_17 (by decide) (by simp only [zq_nr]; split <;> rfl) rfl ?_
  refine zr_aload_nQ (pc := 19) hV dX11_room_19 rfl rfl ?_
  by_cases c1 : r5 < 0
  · rw [zq_nr_n c1]
    refine zr_ifnullN (pc := 20) hV 28 dX11_room_20 (by decide) ?_
    show V 28 [some (ZR 0), some (ZI a), some (ZI b), some (ZN), some (zq_nr r14)] [] 284 σ
    refine zr_iconst (pc := 28) hV (-1) dX11_room_28 rfl ?_
    refine zr_goto (pc := 29) hV 42 dX11_room_29 (by decide) ?_
    show V 42 [some (ZR 0), some (ZI a), some (ZI b), some (ZN), some (zq_nr r14)] [ZI (-1)] 284 σ
    exact zr_iret (pc := 42) hV dX11_room_42 rfl rfl ⟨rfl, _, rfl, ⟨by decide, by decide⟩, ⟨fun _ => rfl, fun h => by first | exact absurd ⟨h.1, h.2.1⟩ (pr5.2.2 (by omega)) | exact absurd ⟨h.2.2.1, h.2.2.2⟩ (pr14.2.2 (by omega))⟩⟩
  · rw [zq_nr_p c1]
    have kr5 : zc_kd r5 = 4 := pr5.1 (by omega)
    have por5 := zc_pos kr5 rfl
    refine zr_ifnull (pc := 20) hV dX11_room_20 ?_
    show V 23 [some (ZR 0), some (ZI a), some (ZI b), some (ZR r5), some (zq_nr r14)] [] 284 σ
    refine zr_aloadQ (pc := 23) hV dX11_room_23 rfl ?_
    by_cases c2 : r14 < 0
    · rw [zq_nr_n c2]
      refine zr_ifnonnullN (pc := 25) hV dX11_room_25 ?_
      show V 28 [some (ZR 0), some (ZI a), some (ZI b), some (ZR r5), some (ZN)] [] 284 σ
      refine zr_iconst (pc := 28) hV (-1) dX11_room_28 rfl ?_
      refine zr_goto (pc := 29) hV 42 dX11_room_29 (by decide) ?_
      show V 42 [some (ZR 0), some (ZI a), some (ZI b), some (ZR r5), some (ZN)] [ZI (-1)] 284 σ
      exact zr_iret (pc := 42) hV dX11_room_42 rfl rfl ⟨rfl, _, rfl, ⟨by decide, by decide⟩, ⟨fun _ => rfl, fun h => by first | exact absurd ⟨h.1, h.2.1⟩ (pr5.2.2 (by omega)) | exact absurd ⟨h.2.2.1, h.2.2.2⟩ (pr14.2.2 (by omega))⟩⟩
    · rw [zq_nr_p c2]
      have kr14 : zc_kd r14 = 4 := pr14.1 (by omega)
      have por14 := zc_pos kr14 rfl
      refine zr_ifnonnull (pc := 25) hV 32 dX11_room_25 (by decide) ?_
      show V 32 [some (ZR 0), some (ZI a), some (ZI b), some (ZR r5), some (ZR r14)] [] 284 σ
      have u5 := pr5.2.1 (by omega)
      have u14 := pr14.2.1 (by omega)
      have h5 : 0 ≤ σ r5 11 ∧ σ r5 11 ≤ 1000 := by rw [u5.2.2]; exact q2 a u5.1 u5.2.1
      have h14 : 0 ≤ σ r14 11 ∧ σ r14 11 ≤ 1000 := by rw [u14.2.2]; exact q2 b u14.1 u14.2.1
      refine zr_aload_n (pc := 32) hV dX11_room_32 rfl rfl ?_
      refine zr_getR (pc := 33) hV 1 3 dX11_room_33 fX11_19 rfl rfl (zc_k0 zc_s0) (zc_pos zc_s0 rfl) (zc_g0_1 hσ zc_s0) (by decide) ?_
      refine zr_aload_n (pc := 36) hV dX11_room_36 rfl rfl ?_
      refine zr_aload (pc := 37) hV dX11_room_37 rfl ?_
      have t3 := zc_g4_11 hσ kr5
      have t4 := zc_g4_11 hσ kr14
      refine zr_callVp (pc := 39) hV [ZR r5, ZR r14] (st := []) (c_X9_roomFor_2 (σ := σ) hσ r5 kr5 r14 kr14 (by omega) (by omega)) dX11_room_39 mX11_260 (zc_k3 zc_s3) (zc_pos zc_s3 rfl) (by decide) (Nat.le_of_ble_eq_true rfl) (Nat.le_refl _) (fun r39 hr39 pr39 => ?_)
      have t5 := zc_g3_2 hσ zc_s3
      show V 42 [some (ZR 0), some (ZI a), some (ZI b), some (ZR r5), some (ZR r14)] [ZI r39] 284 σ
      exact zr_iret (pc := 42) hV dX11_room_42 rfl rfl ⟨rfl, _, rfl, (by omega), ⟨fun h => absurd ⟨u5.1, u5.2.1, u14.1, u14.2.1⟩ h, fun _ => by rw [← u5.2.2, ← u14.2.2]; exact pr39.2⟩⟩
set_option maxHeartbeats 800000 in
theorem c_X3_fieldOf_2 {σ : zq_S} (hσ : zc_T σ) (this : Int) (kthis : zc_kd this = 4) (bits : Int) (f : Int) (q0 : zq_in bits) (q1 : 0 ≤ f ∧ f ≤ 3) : zq_C zc_w yX3_fieldOf cX3_fieldOf 6 (some .int) 0 0 284 284 [ZR this, ZI bits, ZI f] σ (zq_pp σ (fun r => (0 ≤ r ∧ r ≤ 4095) ∧ r = zu_fo (zu_cM (σ (this + 1) f)) (zu_cM bits) 12)) := by
  refine zq_C_of (by decide) (Nat.le_refl _) (Nat.le_of_ble_eq_true rfl) [some (ZR this), some (ZI bits), some (ZI f), none, none, none] rfl (fun V hV => ?_)
  have pothis := zc_pos kthis rfl
  show V 0 [some (ZR this), some (ZI bits), some (ZI f), none, none, none] [] 284 σ
  refine zr_aload_n (pc := 0) hV dX3_fieldOf_0 rfl rfl ?_
  refine zr_getR (pc := 1) hV 3 (this + 1) dX3_fieldOf_1 fX3_9 rfl rfl (zc_k4 kthis) (zc_pos kthis rfl) (zc_g4_3 hσ kthis) (zc_pos (zc_p4_1 kthis) rfl).1 ?_
  refine zr_iload_n (pc := 4) hV dX3_fieldOf_4 rfl rfl ?_
  refine zr_iald (pc := 5) hV dX3_fieldOf_5 (zc_k5 (zc_p4_1 kthis)) (zc_pos (zc_p4_1 kthis) rfl) rfl (by omega) ?_
  have t1 := zc_ga5 hσ (zc_p4_1 kthis) f
  refine zr_istore_n (pc := 6) hV [some (ZR this), some (ZI bits), some (ZI f), some (ZI (σ (this + 1) f)), none, none] dX3_fieldOf_6 rfl (by decide) rfl rfl ?_
  refine zr_iload_n (pc := 7) hV dX3_fieldOf_7 rfl rfl ?_
  refine zr_if_ne (pc := 8) hV 13 dX3_fieldOf_8 (by decide) (by omega) (fun c2 => ?_) (fun c2 => ?_)
  · show V 13 [some (ZR this), some (ZI bits), some (ZI f), some (ZI (σ (this + 1) f)), none, none] [] 284 σ
    refine zr_iconst (pc := 13) hV 0 dX3_fieldOf_13 rfl ?_
    refine zr_istore (pc := 14) hV [some (ZR this), some (ZI bits), some (ZI f), some (ZI (σ (this + 1) f)), some (ZI 0), none] dX3_fieldOf_14 (by decide) rfl rfl ?_
    refine zr_sipush (pc := 16) hV 2048 dX3_fieldOf_16 (by decide) ?_
    refine zr_istore (pc := 19) hV [some (ZR this), some (ZI bits), some (ZI f), some (ZI (σ (this + 1) f)), some (ZI 0), some (ZI 2048)] dX3_fieldOf_19 (by decide) rfl rfl ?_
    have L21 : ∀ (fuel : Nat) (x4_21 : Int) (x5_21 : Int) (k21 : Int), (0 ≤ x4_21 ∧ x4_21 ≤ 4095) → (0 ≤ x5_21 ∧ x5_21 ≤ 2048) → (0 ≤ k21 ∧ k21 ≤ 12) → ((k21 < 12 → x5_21 = zx_p2 (11 - k21)) ∧ (k21 = 12 → x5_21 = 0)) → (x4_21 = zu_fo (zu_cM (σ (this + 1) f)) (zu_cM bits) k21) → x5_21 < (fuel : Int) → V 21 [none, some (ZI bits), none, some (ZI (σ (this + 1) f)), some (ZI x4_21), some (ZI x5_21)] [] 284 σ := by
      intro fuel
      induction fuel with
      | zero =>
        intro x4_21 x5_21 k21 hx4_21 hx5_21 hi21_0 hi21_1 hi21_2 hm21
        exfalso; omega
      | succ fuel ih =>
        intro x4_21 x5_21 k21 hx4_21 hx5_21 hi21_0 hi21_1 hi21_2 hm21
        have ih21 := ih
        show V 21 [none, some (ZI bits), none, some (ZI (σ (this + 1) f)), some (ZI x4_21), some (ZI x5_21)] [] 284 σ
        refine zr_iload (pc := 21) hV dX3_fieldOf_21 rfl ?_
        refine zr_if_le (pc := 23) hV 61 dX3_fieldOf_23 (by decide) (by omega) (fun c3 => ?_) (fun c3 => ?_)
        · show V 61 [none, some (ZI bits), none, some (ZI (σ (this + 1) f)), some (ZI x4_21), some (ZI x5_21)] [] 284 σ
          have zpp := zx_p2_pos (11 - k21)
          refine zr_iload (pc := 61) hV dX3_fieldOf_61 rfl ?_
          exact zr_iret (pc := 63) hV dX3_fieldOf_63 rfl rfl ⟨rfl, _, rfl, (by omega), ⟨by omega, (by rw [show (12 : Int) = k21 by omega]; exact hi21_2)⟩⟩
        · show V 26 [none, some (ZI bits), none, some (ZI (σ (this + 1) f)), some (ZI x4_21), some (ZI x5_21)] [] 284 σ
          have zx5 : x5_21 = zx_p2 (11 - k21) := hi21_1.1 (by omega)
          have zp : k21 + 1 < 12 → zx_p2 (11 - k21) = 2 * zx_p2 (11 - (k21 + 1)) := fun h => by rw [show 11 - k21 = 11 - (k21 + 1) + 1 by omega]; exact zx_p2_s _ (by omega)
          have zp0 : k21 + 1 = 12 → zx_p2 (11 - k21) = 1 := fun h => by rw [show 11 - k21 = 0 by omega]; exact zx_p2_0
          have zfb := zu_fo_b (zu_cM (σ (this + 1) f)) (zu_cM bits) k21
          have zps := zx_p2_s k21 (by omega)
          have zle := zx_p2_le (m := k21 + 1) (n := 12) (by omega)
          have z12 := zx_p2_12
          refine zr_iload_n (pc := 26) hV dX3_fieldOf_26 rfl rfl ?_
          refine zr_iload (pc := 27) hV dX3_fieldOf_27 rfl ?_
          refine zr_iand (pc := 29) hV dX3_fieldOf_29 ?_
          have t4 := zq_and_nnR (x := σ (this + 1) f) (y := x5_21) (by omega)
          refine zr_if_eq (pc := 30) hV 52 dX3_fieldOf_30 (by decide) (by omega) (fun c5 => ?_) (fun c5 => ?_)
          · show V 52 [none, some (ZI bits), none, some (ZI (σ (this + 1) f)), some (ZI x4_21), some (ZI x5_21)] [] 284 σ
            refine zr_iload (pc := 52) hV dX3_fieldOf_52 rfl ?_
            refine zr_iconst (pc := 54) hV 1 dX3_fieldOf_54 rfl ?_
            refine zr_ishr (pc := 55) hV dX3_fieldOf_55 ?_
            have t6 : zq_shr x5_21 1 = x5_21 / 2 := zq_shr_c (x := x5_21) 1 2 (by decide) (by decide) (by omega)
            refine zr_istore (pc := 56) hV [none, some (ZI bits), none, some (ZI (σ (this + 1) f)), some (ZI x4_21), some (ZI (zq_shr x5_21 1))] dX3_fieldOf_56 (by decide) rfl rfl ?_
            refine zr_goto (pc := 58) hV 21 dX3_fieldOf_58 (by decide) ?_
            exact ih21 x4_21 (zq_shr x5_21 1) (k21 + 1) (by omega) (by omega) (by omega) (by refine ⟨fun h => ?_, fun h => ?_⟩ <;> omega) (by rw [zu_fo_n (by omega) (zu_cM_n (by rw [← zx5]; omega))]; exact hi21_2) (by omega)
          · show V 33 [none, some (ZI bits), none, some (ZI (σ (this + 1) f)), some (ZI x4_21), some (ZI x5_21)] [] 284 σ
            refine zr_iload (pc := 33) hV dX3_fieldOf_33 rfl ?_
            refine zr_iconst (pc := 35) hV 2 dX3_fieldOf_35 rfl ?_
            refine zr_imul (pc := 36) hV dX3_fieldOf_36 ?_
            refine zr_iload_n (pc := 37) hV dX3_fieldOf_37 rfl rfl ?_
            refine zr_iload (pc := 38) hV dX3_fieldOf_38 rfl ?_
            refine zr_iand (pc := 40) hV dX3_fieldOf_40 ?_
            have t7 := zq_and_nnR (x := bits) (y := x5_21) (by omega)
            refine zr_if_ne (pc := 41) hV 48 dX3_fieldOf_41 (by decide) (by omega) (fun c8 => ?_) (fun c8 => ?_)
            · show V 48 [none, some (ZI bits), none, some (ZI (σ (this + 1) f)), some (ZI x4_21), some (ZI x5_21)] [ZI (x4_21 * 2)] 284 σ
              refine zr_iconst (pc := 48) hV 1 dX3_fieldOf_48 rfl ?_
              show V 49 [none, some (ZI bits), none, some (ZI (σ (this + 1) f)), some (ZI x4_21), some (ZI x5_21)] [ZI 1, ZI (x4_21 * 2)] 284 σ
              refine zr_iadd (pc := 49) hV dX3_fieldOf_49 ?_
              refine zr_istore (pc := 50) hV [none, some (ZI bits), none, some (ZI (σ (this + 1) f)), some (ZI ((x4_21 * 2) + 1)), some (ZI x5_21)] dX3_fieldOf_50 (by decide) rfl rfl ?_
              show V 52 [none, some (ZI bits), none, some (ZI (σ (this + 1) f)), some (ZI ((x4_21 * 2) + 1)), some (ZI x5_21)] [] 284 σ
              refine zr_iload (pc := 52) hV dX3_fieldOf_52 rfl ?_
              refine zr_iconst (pc := 54) hV 1 dX3_fieldOf_54 rfl ?_
              refine zr_ishr (pc := 55) hV dX3_fieldOf_55 ?_
              have t9 : zq_shr x5_21 1 = x5_21 / 2 := zq_shr_c (x := x5_21) 1 2 (by decide) (by decide) (by omega)
              refine zr_istore (pc := 56) hV [none, some (ZI bits), none, some (ZI (σ (this + 1) f)), some (ZI ((x4_21 * 2) + 1)), some (ZI (zq_shr x5_21 1))] dX3_fieldOf_56 (by decide) rfl rfl ?_
              refine zr_goto (pc := 58) hV 21 dX3_fieldOf_58 (by decide) ?_
              exact ih21 ((x4_21 * 2) + 1) (zq_shr x5_21 1) (k21 + 1) (by omega) (by omega) (by omega) (by refine ⟨fun h => ?_, fun h => ?_⟩ <;> omega) (by rw [zu_fo_1 (by omega) (zu_cM_y (by rw [← zx5]; omega)) (zu_cM_y (by rw [← zx5]; omega)), ← hi21_2]; omega) (by omega)
            · show V 44 [none, some (ZI bits), none, some (ZI (σ (this + 1) f)), some (ZI x4_21), some (ZI x5_21)] [ZI (x4_21 * 2)] 284 σ
              refine zr_iconst (pc := 44) hV 0 dX3_fieldOf_44 rfl ?_
              refine zr_goto (pc := 45) hV 49 dX3_fieldOf_45 (by decide) ?_
              show V 49 [none, some (ZI bits), none, some (ZI (σ (this + 1) f)), some (ZI x4_21), some (ZI x5_21)] [ZI 0, ZI (x4_21 * 2)] 284 σ
              refine zr_iadd (pc := 49) hV dX3_fieldOf_49 ?_
              refine zr_istore (pc := 50) hV [none, some (ZI bits), none, some (ZI (σ (this + 1) f)), some (ZI ((x4_21 * 2) + 0)), some (ZI x5_21)] dX3_fieldOf_50 (by decide) rfl rfl ?_
              show V 52 [none, some (ZI bits), none, some (ZI (σ (this + 1) f)), some (ZI ((x4_21 * 2) + 0)), some (ZI x5_21)] [] 284 σ
              refine zr_iload (pc := 52) hV dX3_fieldOf_52 rfl ?_
              refine zr_iconst (pc := 54) hV 1 dX3_fieldOf_54 rfl ?_
              refine zr_ishr (pc := 55) hV dX3_fieldOf_55 ?_
              have t10 : zq_shr x5_21 1 = x5_21 / 2 := zq_shr_c (x := x5_21) 1 2 (by decide) (by decide) (by omega)
              refine zr_istore (pc := 56) hV [none, some (ZI bits), none, some (ZI (σ (this + 1) f)), some (ZI ((x4_21 * 2) + 0)), some (ZI (zq_shr x5_21 1))] dX3_fieldOf_56 (by decide) rfl rfl ?_
              refine zr_goto (pc := 58) hV 21 dX3_fieldOf_58 (by decide) ?_
              exact ih21 ((x4_21 * 2) + 0) (zq_shr x5_21 1) (k21 + 1) (by omega) (by omega) (by omega) (by refine ⟨fun h => ?_, fun h => ?_⟩ <;> omega) (by rw [zu_fo_0 (by omega) (zu_cM_y (by rw [← zx5]; omega)) (zu_cM_n (by rw [← zx5]; omega)), ← hi21_2]; omega) (by omega)
    refine zr_sub (pc := 21) hV [none, some (ZI bits), none, some (ZI (σ (this + 1) f)), some (ZI 0), some (ZI 2048)] (⟨rfl, rfl, rfl, rfl, trivial⟩) ?_
    exact L21 ((2048 : Int) + 1 : Int).toNat 0 2048 0 (by omega) (by omega) (by omega) ⟨fun _ => rfl, fun h => absurd h (by omega)⟩ (zu_fo_z _ _).symm (by omega)
  · show V 11 [some (ZR this), some (ZI bits), some (ZI f), some (ZI (σ (this + 1) f)), none, none] [] 284 σ
    refine zr_iconst (pc := 11) hV 0 dX3_fieldOf_11 rfl ?_
    exact zr_iret (pc := 12) hV dX3_fieldOf_12 rfl rfl ⟨rfl, _, rfl, ⟨by decide, by decide⟩, ⟨by omega, (by rw [zu_fo_mz (by omega)])⟩⟩
set_option maxHeartbeats 800000 in
theorem c_X9_orderOf_2 {σ : zq_S} (hσ : zc_T σ) (bits : Int) (q0 : 0 ≤ bits ∧ bits ≤ 4095) : zq_C zc_w yX9_orderOf cX9_orderOf 2 (some (.object "OrdersTold$Order")) 1 21 284 284 [ZR 3, ZI bits] σ (zq_pr σ (fun r => (0 ≤ r → zc_kd r = 4) ∧ (zq_hid ((0 ≤ r → (0 ≤ σ 11 bits ∧ σ 11 bits < σ 3 3) ∧ r = σ 10 (σ 11 bits)) ∧ (r < 0 → ¬ (0 ≤ σ 11 bits ∧ σ 11 bits < σ 3 3)))))) := by
  refine zq_C_of (by decide) (Nat.le_refl _) (Nat.le_of_ble_eq_true rfl) [some (ZR 3), some (ZI bits)] rfl (fun V hV => ?_)
  show V 0 [some (ZR 3), some (ZI bits)] [] 284 σ
  refine zr_aload_n (pc := 0) hV dX9_orderOf_0 rfl rfl ?_
  refine zr_aload_n (pc := 1) hV dX9_orderOf_1 rfl rfl ?_
  refine zr_iload_n (pc := 2) hV dX9_orderOf_2 rfl rfl ?_
  refine zr_callVp (pc := 3) hV [ZI bits] (st := [ZR 3]) (c_X9_numberOf_2 (σ := σ) hσ bits (by omega)) dX9_orderOf_3 mX9_52 (zc_k3 zc_s3) (zc_pos zc_s3 rfl) (by decide) (Nat.le_of_ble_eq_true rfl) (Nat.le_refl _) (fun r3 hr3 pr3 => ?_)
  have zn : r3 = σ 11 bits := pr3.2.1 ⟨by omega, by omega⟩
  refine zr_callVr (pc := 6) hV [ZI r3] (st := []) (c_X9_numbered_2 (σ := σ) hσ r3 (by omega)) dX9_orderOf_6 mX9_56 (zc_k3 zc_s3) (zc_pos zc_s3 rfl) (by decide) (Nat.le_of_ble_eq_true rfl) (Nat.le_refl _) (fun r6 pr6 => ?_)
  rw [zn] at pr6
  exact zr_aretQ (pc := 9) hV dX9_orderOf_9 rfl rfl ⟨rfl, _, rfl, pr6.1, ⟨fun h => ⟨⟨(pr6.2.1 h).1, (pr6.2.1 h).2.1⟩, (pr6.2.1 h).2.2⟩, pr6.2.2⟩⟩
set_option maxHeartbeats 800000 in
theorem c_X11_field_2 {σ : zq_S} (hσ : zc_T σ) (bits : Int) (f : Int) (q0 : zq_in bits) (q1 : zq_in f) (Uσ : zc_U σ) : zq_C zc_w yX11_field cX11_field 4 (some .int) 2 42 284 284 [ZR 0, ZI bits, ZI f] σ (zq_pp σ (fun r => zq_hid ((¬ (0 ≤ bits ∧ bits < zx_p2 (σ 3 2) ∧ 0 ≤ f ∧ f ≤ 3) → r = -1) ∧ ((0 ≤ bits ∧ bits < zx_p2 (σ 3 2) ∧ 0 ≤ f ∧ f ≤ 3) → (¬ (0 ≤ σ 11 bits ∧ σ 11 bits < σ 3 3) → r = -4) ∧ ((0 ≤ σ 11 bits ∧ σ 11 bits < σ 3 3) → (σ (σ 10 (σ 11 bits) + 1) f = 0 → r = -4) ∧ (σ (σ 10 (σ 11 bits) + 1) f ≠ 0 → r = zu_fo (zu_cM (σ (σ 10 (σ 11 bits) + 1) f)) (zu_cM bits) 12)))))) := by
  refine zq_C_of (by decide) (Nat.le_refl _) (Nat.le_of_ble_eq_true rfl) [some (ZR 0), some (ZI bits), some (ZI f), none] rfl (fun V hV => ?_)
  show V 0 [some (ZR 0), some (ZI bits), some (ZI f), none] [] 284 σ
  refine zr_aload_n (pc := 0) hV dX11_field_0 rfl rfl ?_
  refine zr_getR (pc := 1) hV 1 3 dX11_field_1 fX11_19 rfl rfl (zc_k0 zc_s0) (zc_pos zc_s0 rfl) (zc_g0_1 hσ zc_s0) (by decide) ?_
  refine zr_iload_n (pc := 4) hV dX11_field_4 rfl rfl ?_
  refine zr_callVp (pc := 5) hV [ZI bits] (st := []) (c_X9_isBits_2 (σ := σ) hσ bits (by omega)) dX11_field_5 mX11_127 (zc_k3 zc_s3) (zc_pos zc_s3 rfl) (by decide) (Nat.le_of_ble_eq_true rfl) (Nat.le_refl _) (fun r5 hr5 pr5 => ?_)
  have t1 := zc_g3_2 hσ zc_s3
  refine zr_if_eq (pc := 8) hV 20 dX11_field_8 (by decide) (by omega) (fun c2 => ?_) (fun c2 => ?_)
  · show V 20 [some (ZR 0), some (ZI bits), some (ZI f), none] [] 284 σ
    refine zr_iconst (pc := 20) hV (-1) dX11_field_20 rfl ?_
    exact zr_iret (pc := 21) hV dX11_field_21 rfl rfl ⟨rfl, _, rfl, ⟨by decide, by decide⟩, ⟨fun _ => rfl, fun h => absurd h (by omega)⟩⟩
  · show V 11 [some (ZR 0), some (ZI bits), some (ZI f), none] [] 284 σ
    refine zr_iload_n (pc := 11) hV dX11_field_11 rfl rfl ?_
    refine zr_iconst (pc := 12) hV 0 dX11_field_12 rfl ?_
    refine zr_iconst (pc := 13) hV 3 dX11_field_13 rfl ?_
    refine zr_callSp (pc := 14) hV [ZI f, ZI 0, ZI 3] (st := []) (c_X11_within (σ := σ) f 0 3 (by omega) (by omega) (by omega)) dX11_field_14 mX11_89 (by decide) (Nat.le_of_ble_eq_true rfl) (Nat.le_refl _) (fun r14 hr14 pr14 => ?_)
    refine zr_if_ne (pc := 17) hV 22 dX11_field_17 (by decide) (by omega) (fun c3 => ?_) (fun c3 => ?_)
    · show V 22 [some (ZR 0), some (ZI bits), some (ZI f), none] [] 284 σ
      refine zr_aload_n (pc := 22) hV dX11_field_22 rfl rfl ?_
      refine zr_getR (pc := 23) hV 1 3 dX11_field_23 fX11_19 rfl rfl (zc_k0 zc_s0) (zc_pos zc_s0 rfl) (zc_g0_1 hσ zc_s0) (by decide) ?_
      refine zr_iload_n (pc := 26) hV dX11_field_26 rfl rfl ?_
      refine zr_callVr (pc := 27) hV [ZI bits] (st := []) (c_X9_orderOf_2 (σ := σ) hσ bits (by omega)) dX11_field_27 mX11_134 (zc_k3 zc_s3) (zc_pos zc_s3 rfl) (by decide) (Nat.le_of_ble_eq_true rfl) (Nat.le_refl _) (fun r27 pr27 => ?_)
      refine zr_astore_nQ (pc := 30) hV [some (ZR 0), some (ZI bits), some (ZI f), some (zq_nr r27)] dX11_field_30 rfl (by decide) rfl rfl ?_
      refine zr_aload_nQ (pc := 31) hV dX11_field_31 rfl rfl ?_
      by_cases c4 : r27 < 0
      · rw [zq_nr_n c4]
        refine zr_ifnullN (pc := 32) hV 43 dX11_field_32 (by decide) ?_
        show V 43 [some (ZR 0), some (ZI bits), some (ZI f), some (ZN)] [] 284 σ
        refine zr_bipush (pc := 43) hV (-4) dX11_field_43 (by decide) ?_
        refine zr_goto (pc := 45) hV 54 dX11_field_45 (by decide) ?_
        show V 54 [some (ZR 0), some (ZI bits), some (ZI f), some (ZN)] [ZI (-4)] 284 σ
        exact zr_iret (pc := 54) hV dX11_field_54 rfl rfl ⟨rfl, _, rfl, ⟨by decide, by decide⟩, ⟨fun h => absurd (by omega) h, fun _ => by first | exact ⟨fun _ => rfl, fun o => absurd o (pr27.2.2 (by omega))⟩ | exact ⟨fun _ => rfl, fun o => ⟨fun _ => rfl, fun h => absurd ((by rw [(pr27.2.1 (by omega)).2] at pr37; exact pr37.2.mpr h : r37 = 1)) (by omega)⟩⟩⟩⟩
      · rw [zq_nr_p c4]
        have kr27 : zc_kd r27 = 4 := pr27.1 (by omega)
        have por27 := zc_pos kr27 rfl
        refine zr_ifnull (pc := 32) hV dX11_field_32 ?_
        show V 35 [some (ZR 0), some (ZI bits), some (ZI f), some (ZR r27)] [] 284 σ
        refine zr_aload_n (pc := 35) hV dX11_field_35 rfl rfl ?_
        refine zr_iload_n (pc := 36) hV dX11_field_36 rfl rfl ?_
        refine zr_callVp (pc := 37) hV [ZI f] (st := []) (c_X3_hasField_2 (σ := σ) hσ r27 kr27 f (by omega)) dX11_field_37 mX11_137 (zc_k4 kr27) (zc_pos kr27 rfl) (by decide) (Nat.le_of_ble_eq_true rfl) (Nat.le_refl _) (fun r37 hr37 pr37 => ?_)
        refine zr_if_ne (pc := 40) hV 48 dX11_field_40 (by decide) (by omega) (fun c5 => ?_) (fun c5 => ?_)
        · show V 48 [some (ZR 0), some (ZI bits), some (ZI f), some (ZR r27)] [] 284 σ
          refine zr_aload_n (pc := 48) hV dX11_field_48 rfl rfl ?_
          refine zr_iload_n (pc := 49) hV dX11_field_49 rfl rfl ?_
          refine zr_iload_n (pc := 50) hV dX11_field_50 rfl rfl ?_
          refine zr_callVp (pc := 51) hV [ZI bits, ZI f] (st := []) (c_X3_fieldOf_2 (σ := σ) hσ r27 kr27 bits f (by omega) (by omega)) dX11_field_51 mX11_140 (zc_k4 kr27) (zc_pos kr27 rfl) (by decide) (Nat.le_of_ble_eq_true rfl) (Nat.le_refl _) (fun r51 hr51 pr51 => ?_)
          show V 54 [some (ZR 0), some (ZI bits), some (ZI f), some (ZR r27)] [ZI r51] 284 σ
          exact zr_iret (pc := 54) hV dX11_field_54 rfl rfl ⟨rfl, _, rfl, (by omega), ⟨fun h => absurd (by omega) h, fun _ => ⟨fun o => absurd (pr27.2.1 (by omega)).1 o, fun _ => ⟨fun h => absurd h (by rw [← (pr27.2.1 (by omega)).2]; exact pr37.2.mp (by omega)), fun _ => by rw [← (pr27.2.1 (by omega)).2]; exact pr51.2⟩⟩⟩⟩
        · show V 43 [some (ZR 0), some (ZI bits), some (ZI f), some (ZR r27)] [] 284 σ
          refine zr_bipush (pc := 43) hV (-4) dX11_field_43 (by decide) ?_
          refine zr_goto (pc := 45) hV 54 dX11_field_45 (by decide) ?_
          show V 54 [some (ZR 0), some (ZI bits), some (ZI f), some (ZR r27)] [ZI (-4)] 284 σ
          exact zr_iret (pc := 54) hV dX11_field_54 rfl rfl ⟨rfl, _, rfl, ⟨by decide, by decide⟩, ⟨fun h => absurd (by omega) h, fun _ => by first | exact ⟨fun _ => rfl, fun o => absurd o (pr27.2.2 (by omega))⟩ | exact ⟨fun _ => rfl, fun o => ⟨fun _ => rfl, fun h => absurd ((by rw [(pr27.2.1 (by omega)).2] at pr37; exact pr37.2.mpr h : r37 = 1)) (by omega)⟩⟩⟩⟩
    · show V 20 [some (ZR 0), some (ZI bits), some (ZI f), none] [] 284 σ
      refine zr_iconst (pc := 20) hV (-1) dX11_field_20 rfl ?_
      exact zr_iret (pc := 21) hV dX11_field_21 rfl rfl ⟨rfl, _, rfl, ⟨by decide, by decide⟩, ⟨fun _ => rfl, fun h => absurd h (by omega)⟩⟩
