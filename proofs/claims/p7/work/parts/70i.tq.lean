set_option maxHeartbeats 800000 in
theorem c_X3_fieldLetters_2 {σ : zq_S} (hσ : zc_T σ) (this : Int) (kthis : zc_kd this = 4)  : zq_C zc_w yX3_fieldLetters cX3_fieldLetters 3 (some .int) 1 21 284 284 [ZR this] σ (zq_pp σ (fun r => r = zu_fl (σ (this + 1)) 4)) := by
  refine zq_C_of (by decide) (Nat.le_refl _) (Nat.le_of_ble_eq_true rfl) [some (ZR this), none, none] rfl (fun V hV => ?_)
  have pothis := zc_pos kthis rfl
  show V 0 [some (ZR this), none, none] [] 284 σ
  refine zr_iconst (pc := 0) hV 0 dX3_fieldLetters_0 rfl ?_
  refine zr_istore_n (pc := 1) hV [some (ZR this), some (ZI 0), none] dX3_fieldLetters_1 rfl (by decide) rfl rfl ?_
  refine zr_iconst (pc := 2) hV 0 dX3_fieldLetters_2 rfl ?_
  refine zr_istore_n (pc := 3) hV [some (ZR this), some (ZI 0), some (ZI 0)] dX3_fieldLetters_3 rfl (by decide) rfl rfl ?_
  have L4 : ∀ (fuel : Nat) (x1_4 : Int) (x2_4 : Int), ((-2147483648) ≤ x1_4 ∧ x1_4 ≤ 2147483647) → (0 ≤ x2_4 ∧ x2_4 ≤ 4) → (x1_4 = zu_fl (σ (this + 1)) x2_4) → 4 - x2_4 < (fuel : Int) → V 4 [some (ZR this), some (ZI x1_4), some (ZI x2_4)] [] 284 σ := by
    intro fuel
    induction fuel with
    | zero =>
      intro x1_4 x2_4 hx1_4 hx2_4 hi4_0 hm4
      exfalso; omega
    | succ fuel ih =>
      intro x1_4 x2_4 hx1_4 hx2_4 hi4_0 hm4
      have ih4 := ih
      show V 4 [some (ZR this), some (ZI x1_4), some (ZI x2_4)] [] 284 σ
      refine zr_iload_n (pc := 4) hV dX3_fieldLetters_4 rfl rfl ?_
      refine zr_iconst (pc := 5) hV 3 dX3_fieldLetters_5 rfl ?_
      refine zr_icmp_gt (pc := 6) hV 33 dX3_fieldLetters_6 (by decide) (by omega) ⟨by decide, by decide⟩ (fun c1 => ?_) (fun c1 => ?_)
      · show V 33 [some (ZR this), some (ZI x1_4), some (ZI x2_4)] [] 284 σ
        refine zr_iload_n (pc := 33) hV dX3_fieldLetters_33 rfl rfl ?_
        exact zr_iret (pc := 34) hV dX3_fieldLetters_34 rfl rfl ⟨rfl, _, rfl, (by omega), (by rw [show (4 : Int) = x2_4 by omega]; exact hi4_0)⟩
      · show V 9 [some (ZR this), some (ZI x1_4), some (ZI x2_4)] [] 284 σ
        refine zr_iload_n (pc := 9) hV dX3_fieldLetters_9 rfl rfl ?_
        refine zr_aload_n (pc := 10) hV dX3_fieldLetters_10 rfl rfl ?_
        refine zr_iload_n (pc := 11) hV dX3_fieldLetters_11 rfl rfl ?_
        refine zr_callVp (pc := 12) hV [ZI x2_4] (st := [ZI x1_4]) (c_X3_hasField_2 (σ := σ) hσ this kthis x2_4 (by omega)) dX3_fieldLetters_12 mX3_83 (zc_k4 kthis) (zc_pos kthis rfl) (by decide) (Nat.le_of_ble_eq_true rfl) (Nat.le_refl _) (fun r12 hr12 pr12 => ?_)
        refine zr_if_eq (pc := 15) hV 24 dX3_fieldLetters_15 (by decide) (by omega) (fun c2 => ?_) (fun c2 => ?_)
        · show V 24 [some (ZR this), some (ZI x1_4), some (ZI x2_4)] [ZI x1_4] 284 σ
          refine zr_iconst (pc := 24) hV 0 dX3_fieldLetters_24 rfl ?_
          show V 25 [some (ZR this), some (ZI x1_4), some (ZI x2_4)] [ZI 0, ZI x1_4] 284 σ
          refine zr_ior (pc := 25) hV dX3_fieldLetters_25 ?_
          have t3 := zq_or_in x1_4 0
          refine zr_istore_n (pc := 26) hV [some (ZR this), some (ZI (zq_or x1_4 0)), some (ZI x2_4)] dX3_fieldLetters_26 rfl (by decide) rfl rfl ?_
          refine zr_iinc (pc := 27) hV [some (ZR this), some (ZI (zq_or x1_4 0)), some (ZI (x2_4 + 1))] (x2_4 + 1) dX3_fieldLetters_27 rfl rfl (by decide) rfl rfl ?_
          refine zr_goto (pc := 30) hV 4 dX3_fieldLetters_30 (by decide) ?_
          exact ih4 (zq_or x1_4 0) (x2_4 + 1) (by omega) (by omega) (by rw [(zu_fl_s (σ (this + 1)) (n := x2_4) (by omega)).2 (by omega), ← hi4_0]) (by omega)
        · show V 18 [some (ZR this), some (ZI x1_4), some (ZI x2_4)] [ZI x1_4] 284 σ
          refine zr_iconst (pc := 18) hV 1 dX3_fieldLetters_18 rfl ?_
          refine zr_iload_n (pc := 19) hV dX3_fieldLetters_19 rfl rfl ?_
          refine zr_ishl (pc := 20) hV dX3_fieldLetters_20 ?_
          have t4 := zx_shl_one (y := x2_4) 3 8 (by decide) (by decide) (by omega)
          refine zr_goto (pc := 21) hV 25 dX3_fieldLetters_21 (by decide) ?_
          show V 25 [some (ZR this), some (ZI x1_4), some (ZI x2_4)] [ZI (zq_shl 1 x2_4), ZI x1_4] 284 σ
          refine zr_ior (pc := 25) hV dX3_fieldLetters_25 ?_
          have t5 := zq_or_in x1_4 (zq_shl 1 x2_4)
          refine zr_istore_n (pc := 26) hV [some (ZR this), some (ZI (zq_or x1_4 (zq_shl 1 x2_4))), some (ZI x2_4)] dX3_fieldLetters_26 rfl (by decide) rfl rfl ?_
          refine zr_iinc (pc := 27) hV [some (ZR this), some (ZI (zq_or x1_4 (zq_shl 1 x2_4))), some (ZI (x2_4 + 1))] (x2_4 + 1) dX3_fieldLetters_27 rfl rfl (by decide) rfl rfl ?_
          refine zr_goto (pc := 30) hV 4 dX3_fieldLetters_30 (by decide) ?_
          exact ih4 (zq_or x1_4 (zq_shl 1 x2_4)) (x2_4 + 1) (by omega) (by omega) (by rw [(zu_fl_s (σ (this + 1)) (n := x2_4) (by omega)).1 (by omega), ← hi4_0]) (by omega)
  exact L4 (4 - (0 : Int) + 1 : Int).toNat 0 0 (by omega) (by omega) (zu_fl_0 _).symm (by omega)
set_option maxHeartbeats 800000 in
theorem c_X3_tellAbout_2 {σ : zq_S} (hσ : zc_T σ) (this : Int) (kthis : zc_kd this = 4) (what : Int) (q0 : zq_in what) : zq_C zc_w yX3_tellAbout cX3_tellAbout 2 (some .int) 2 43 284 284 [ZR this, ZI what] σ (zq_pp σ (fun r => zq_hid (zu_ab σ this what r))) := by
  refine zq_C_of (by decide) (Nat.le_refl _) (Nat.le_of_ble_eq_true rfl) [some (ZR this), some (ZI what)] rfl (fun V hV => ?_)
  have pothis := zc_pos kthis rfl
  show V 0 [some (ZR this), some (ZI what)] [] 284 σ
  refine zr_iload_n (pc := 0) hV dX3_tellAbout_0 rfl rfl ?_
  by_cases c1 : what = 0
  · refine zr_eqI (V := V) 0 c1 ?_
    refine zr_tableIn (pc := 1) hV 40 dX3_tellAbout_1 ⟨by decide, by decide⟩ (by decide) (by decide) rfl (by decide) ?_
    show V 40 [some (ZR this), some (ZI what)] [] 284 σ
    refine zr_aload_n (pc := 40) hV dX3_tellAbout_40 rfl rfl ?_
    refine zr_getI (pc := 41) hV 11 dX3_tellAbout_41 fX3_52 rfl rfl (zc_k4 kthis) (zc_pos kthis rfl) ?_
    have t2 := zc_g4_11 hσ kthis
    exact zr_iret (pc := 44) hV dX3_tellAbout_44 rfl rfl ⟨rfl, _, rfl, (by omega), ⟨fun _ => rfl, fun h => absurd h (by omega), fun h => absurd h (by omega), fun h => absurd h (by omega), fun h => absurd h (by omega), fun h => absurd h (by omega), fun h => absurd (by omega) h⟩⟩
  by_cases c3 : what = 1
  · refine zr_eqI (V := V) 1 c3 ?_
    refine zr_tableIn (pc := 1) hV 45 dX3_tellAbout_1 ⟨by decide, by decide⟩ (by decide) (by decide) rfl (by decide) ?_
    show V 45 [some (ZR this), some (ZI what)] [] 284 σ
    refine zr_aload_n (pc := 45) hV dX3_tellAbout_45 rfl rfl ?_
    refine zr_getI (pc := 46) hV 6 dX3_tellAbout_46 fX3_49 rfl rfl (zc_k4 kthis) (zc_pos kthis rfl) ?_
    have t4 := zc_g4_6 hσ kthis
    exact zr_iret (pc := 49) hV dX3_tellAbout_49 rfl rfl ⟨rfl, _, rfl, (by omega), ⟨fun h => absurd h (by omega), fun _ => rfl, fun h => absurd h (by omega), fun h => absurd h (by omega), fun h => absurd h (by omega), fun h => absurd h (by omega), fun h => absurd (by omega) h⟩⟩
  by_cases c5 : what = 2
  · refine zr_eqI (V := V) 2 c5 ?_
    refine zr_tableIn (pc := 1) hV 50 dX3_tellAbout_1 ⟨by decide, by decide⟩ (by decide) (by decide) rfl (by decide) ?_
    show V 50 [some (ZR this), some (ZI what)] [] 284 σ
    refine zr_aload_n (pc := 50) hV dX3_tellAbout_50 rfl rfl ?_
    refine zr_getI (pc := 51) hV 4 dX3_tellAbout_51 fX3_43 rfl rfl (zc_k4 kthis) (zc_pos kthis rfl) ?_
    have t6 := zc_g4_4 hσ kthis
    exact zr_iret (pc := 54) hV dX3_tellAbout_54 rfl rfl ⟨rfl, _, rfl, (by omega), ⟨fun h => absurd h (by omega), fun h => absurd h (by omega), fun _ => rfl, fun h => absurd h (by omega), fun h => absurd h (by omega), fun h => absurd h (by omega), fun h => absurd (by omega) h⟩⟩
  by_cases c7 : what = 3
  · refine zr_eqI (V := V) 3 c7 ?_
    refine zr_tableIn (pc := 1) hV 55 dX3_tellAbout_1 ⟨by decide, by decide⟩ (by decide) (by decide) rfl (by decide) ?_
    show V 55 [some (ZR this), some (ZI what)] [] 284 σ
    refine zr_aload_n (pc := 55) hV dX3_tellAbout_55 rfl rfl ?_
    refine zr_callVp (pc := 56) hV [] (st := []) (c_X3_fieldLetters_2 (σ := σ) hσ this kthis) dX3_tellAbout_56 mX3_89 (zc_k4 kthis) (zc_pos kthis rfl) (by decide) (Nat.le_of_ble_eq_true rfl) (Nat.le_refl _) (fun r56 hr56 pr56 => ?_)
    exact zr_iret (pc := 59) hV dX3_tellAbout_59 rfl rfl ⟨rfl, _, rfl, (by omega), ⟨fun h => absurd h (by omega), fun h => absurd h (by omega), fun h => absurd h (by omega), fun _ => pr56, fun h => absurd h (by omega), fun h => absurd h (by omega), fun h => absurd (by omega) h⟩⟩
  by_cases c8 : what = 4
  · refine zr_eqI (V := V) 4 c8 ?_
    refine zr_tableIn (pc := 1) hV 60 dX3_tellAbout_1 ⟨by decide, by decide⟩ (by decide) (by decide) rfl (by decide) ?_
    show V 60 [some (ZR this), some (ZI what)] [] 284 σ
    refine zr_aload_n (pc := 60) hV dX3_tellAbout_60 rfl rfl ?_
    refine zr_iconst (pc := 61) hV 3 dX3_tellAbout_61 rfl ?_
    refine zr_callVp (pc := 62) hV [ZI 3] (st := []) (c_X3_fieldBits_2 (σ := σ) hσ this kthis 3 (by omega)) dX3_tellAbout_62 mX3_93 (zc_k4 kthis) (zc_pos kthis rfl) (by decide) (Nat.le_of_ble_eq_true rfl) (Nat.le_refl _) (fun r62 hr62 pr62 => ?_)
    exact zr_iret (pc := 65) hV dX3_tellAbout_65 rfl rfl ⟨rfl, _, rfl, (by omega), ⟨fun h => absurd h (by omega), fun h => absurd h (by omega), fun h => absurd h (by omega), fun h => absurd h (by omega), fun _ => pr62.2, fun h => absurd h (by omega), fun h => absurd (by omega) h⟩⟩
  by_cases c9 : what = 5
  · refine zr_eqI (V := V) 5 c9 ?_
    refine zr_tableIn (pc := 1) hV 66 dX3_tellAbout_1 ⟨by decide, by decide⟩ (by decide) (by decide) rfl (by decide) ?_
    show V 66 [some (ZR this), some (ZI what)] [] 284 σ
    refine zr_aload_n (pc := 66) hV dX3_tellAbout_66 rfl rfl ?_
    refine zr_getI (pc := 67) hV 2 dX3_tellAbout_67 fX3_34 rfl rfl (zc_k4 kthis) (zc_pos kthis rfl) ?_
    have t10 := zc_g4_2 hσ kthis
    exact zr_iret (pc := 70) hV dX3_tellAbout_70 rfl rfl ⟨rfl, _, rfl, (by omega), ⟨fun h => absurd h (by omega), fun h => absurd h (by omega), fun h => absurd h (by omega), fun h => absurd h (by omega), fun h => absurd h (by omega), fun _ => rfl, fun h => absurd (by omega) h⟩⟩
  refine zr_tableOut (pc := 1) hV 71 dX3_tellAbout_1 (by omega) (by omega) (by decide) ?_
  show V 71 [some (ZR this), some (ZI what)] [] 284 σ
  refine zr_iconst (pc := 71) hV (-1) dX3_tellAbout_71 rfl ?_
  exact zr_iret (pc := 72) hV dX3_tellAbout_72 rfl rfl ⟨rfl, _, rfl, ⟨by decide, by decide⟩, ⟨fun h => absurd h (by omega), fun h => absurd h (by omega), fun h => absurd h (by omega), fun h => absurd h (by omega), fun h => absurd h (by omega), fun h => absurd h (by omega), fun _ => rfl⟩⟩
set_option maxHeartbeats 800000 in
theorem c_X11_about_2 {σ : zq_S} (hσ : zc_T σ) (order : Int) (what : Int) (q0 : zq_in order) (q1 : zq_in what) (Uσ : zc_U σ) : zq_C zc_w yX11_about cX11_about 4 (some .int) 3 64 284 284 [ZR 0, ZI order, ZI what] σ (zq_pp σ (fun r => zq_hid ((¬ (0 ≤ order ∧ order < σ 3 3) → r = -1) ∧ (0 ≤ order ∧ order < σ 3 3 → zu_ab σ (σ 10 order) what r)))) := by
  refine zq_C_of (by decide) (Nat.le_refl _) (Nat.le_of_ble_eq_true rfl) [some (ZR 0), some (ZI order), some (ZI what), none] rfl (fun V hV => ?_)
  show V 0 [some (ZR 0), some (ZI order), some (ZI what), none] [] 284 σ
  refine zr_aload_n (pc := 0) hV dX11_about_0 rfl rfl ?_
  refine zr_getR (pc := 1) hV 1 3 dX11_about_1 fX11_19 rfl rfl (zc_k0 zc_s0) (zc_pos zc_s0 rfl) (zc_g0_1 hσ zc_s0) (by decide) ?_
  refine zr_iload_n (pc := 4) hV dX11_about_4 rfl rfl ?_
  refine zr_callVr (pc := 5) hV [ZI order] (st := []) (c_X9_numbered_2 (σ := σ) hσ order (by omega)) dX11_about_5 mX11_117 (zc_k3 zc_s3) (zc_pos zc_s3 rfl) (by decide) (Nat.le_of_ble_eq_true rfl) (Nat.le_refl _) (fun r5 pr5 => ?_)
  refine zr_astore_nQ (pc := 8) hV [some (ZR 0), some (ZI order), some (ZI what), some (zq_nr r5)] dX11_about_8 rfl (by decide) rfl rfl ?_
  refine zr_aload_nQ (pc := 9) hV dX11_about_9 rfl rfl ?_
  by_cases c1 : r5 < 0
  · rw [zq_nr_n c1]
    refine zr_ifnonnullN (pc := 10) hV dX11_about_10 ?_
    show V 13 [some (ZR 0), some (ZI order), some (ZI what), some (ZN)] [] 284 σ
    refine zr_iconst (pc := 13) hV (-1) dX11_about_13 rfl ?_
    refine zr_goto (pc := 14) hV 22 dX11_about_14 (by decide) ?_
    show V 22 [some (ZR 0), some (ZI order), some (ZI what), some (ZN)] [ZI (-1)] 284 σ
    exact zr_iret (pc := 22) hV dX11_about_22 rfl rfl ⟨rfl, _, rfl, ⟨by decide, by decide⟩, ⟨fun _ => rfl, fun h => absurd h (pr5.2.2 (by omega))⟩⟩
  · rw [zq_nr_p c1]
    have kr5 : zc_kd r5 = 4 := pr5.1 (by omega)
    have por5 := zc_pos kr5 rfl
    refine zr_ifnonnull (pc := 10) hV 17 dX11_about_10 (by decide) ?_
    show V 17 [some (ZR 0), some (ZI order), some (ZI what), some (ZR r5)] [] 284 σ
    refine zr_aload_n (pc := 17) hV dX11_about_17 rfl rfl ?_
    refine zr_iload_n (pc := 18) hV dX11_about_18 rfl rfl ?_
    refine zr_callVp (pc := 19) hV [ZI what] (st := []) (c_X3_tellAbout_2 (σ := σ) hσ r5 kr5 what (by omega)) dX11_about_19 mX11_121 (zc_k4 kr5) (zc_pos kr5 rfl) (by decide) (Nat.le_of_ble_eq_true rfl) (Nat.le_refl _) (fun r19 hr19 pr19 => ?_)
    show V 22 [some (ZR 0), some (ZI order), some (ZI what), some (ZR r5)] [ZI r19] 284 σ
    exact zr_iret (pc := 22) hV dX11_about_22 rfl rfl ⟨rfl, _, rfl, (by omega), ⟨fun h => absurd ⟨(pr5.2.1 (by omega)).1, (pr5.2.1 (by omega)).2.1⟩ h, fun _ => by rw [← (pr5.2.1 (by omega)).2.2]; exact pr19⟩⟩
