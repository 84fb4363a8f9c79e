set_option maxHeartbeats 800000 in
theorem c_X9_isBits_2 {σ : zq_S} (hσ : zc_T σ) (bits : Int) (q0 : zq_in bits) : zq_C zc_w yX9_isBits cX9_isBits 2 (some .boolean) 1 20 284 284 [ZR 3, ZI bits] σ (zq_pp σ (fun r => (0 ≤ r ∧ r ≤ 1) ∧ (r = 1 → 0 ≤ bits ∧ bits ≤ 4095) ∧ (r = 1 ↔ 0 ≤ bits ∧ bits < zx_p2 (σ 3 2)))) := by
  refine zq_C_of (by decide) (Nat.le_refl _) (Nat.le_of_ble_eq_true rfl) [some (ZR 3), some (ZI bits)] rfl (fun V hV => ?_)
  show V 0 [some (ZR 3), some (ZI bits)] [] 284 σ
  refine zr_iload_n (pc := 0) hV dX9_isBits_0 rfl rfl ?_
  refine zr_if_lt (pc := 1) hV 16 dX9_isBits_1 (by decide) (by omega) (fun c1 => ?_) (fun c1 => ?_)
  · show V 16 [some (ZR 3), some (ZI bits)] [] 284 σ
    refine zr_iconst (pc := 16) hV 0 dX9_isBits_16 rfl ?_
    show V 17 [some (ZR 3), some (ZI bits)] [ZI 0] 284 σ
    exact zr_zret (pc := 17) hV dX9_isBits_17 rfl rfl (by omega) ⟨rfl, _, rfl, ⟨by decide, by decide⟩, (by omega)⟩
  · show V 4 [some (ZR 3), some (ZI bits)] [] 284 σ
    refine zr_iload_n (pc := 4) hV dX9_isBits_4 rfl rfl ?_
    refine zr_aload_n (pc := 5) hV dX9_isBits_5 rfl rfl ?_
    refine zr_callVp (pc := 6) hV [] (st := [ZI bits]) (c_X9_bitsInAll_2 (σ := σ) hσ) dX9_isBits_6 mX9_48 (zc_k3 zc_s3) (zc_pos zc_s3 rfl) (by decide) (Nat.le_of_ble_eq_true rfl) (Nat.le_refl _) (fun r6 hr6 pr6 => ?_)
    have t2 := zc_g3_2 hσ zc_s3
    refine zr_icmp_ge (pc := 9) hV 16 dX9_isBits_9 (by decide) (by omega) (by omega) (fun c3 => ?_) (fun c3 => ?_)
    · show V 16 [some (ZR 3), some (ZI bits)] [] 284 σ
      refine zr_iconst (pc := 16) hV 0 dX9_isBits_16 rfl ?_
      show V 17 [some (ZR 3), some (ZI bits)] [ZI 0] 284 σ
      exact zr_zret (pc := 17) hV dX9_isBits_17 rfl rfl (by omega) ⟨rfl, _, rfl, ⟨by decide, by decide⟩, (by omega)⟩
    · show V 12 [some (ZR 3), some (ZI bits)] [] 284 σ
      refine zr_iconst (pc := 12) hV 1 dX9_isBits_12 rfl ?_
      refine zr_goto (pc := 13) hV 17 dX9_isBits_13 (by decide) ?_
      show V 17 [some (ZR 3), some (ZI bits)] [ZI 1] 284 σ
      exact zr_zret (pc := 17) hV dX9_isBits_17 rfl rfl (by omega) ⟨rfl, _, rfl, ⟨by decide, by decide⟩, (by omega)⟩
set_option maxHeartbeats 800000 in
theorem c_X3_fieldOf_2 {σ : zq_S} (hσ : zc_T σ) (this : Int) (kthis : zc_kd this = 4) (bits : Int) (f : Int) (q0 : zq_in bits) (q1 : 0 ≤ f ∧ f ≤ 3) : zq_C zc_w yX3_fieldOf cX3_fieldOf 6 (some .int) 0 0 284 284 [ZR this, ZI bits, ZI f] σ (zq_pp σ (fun r => (0 ≤ r ∧ r ≤ 4095) ∧ r = zu_fo (zu_cM (σ (this + 1) f)) (zu_cM bits) 12)) := by
  refine zq_C_of (by decide) (Nat.le_refl _) (Nat.le_of_ble_eq_true rfl) [some (ZR this), some (ZI bits), some (ZI f), none, none, none] rfl (fun V hV => ?_)
  have pothis := zc_pos kthis rfl
  show V 0 [some (ZR this), some (ZI bits), some (ZI f), none, none, none] [] 284 σ
  refine zr_aload_n (pc := 0) hV dX3_fieldOf_0 rfl rfl ?_
  refine zr_getR (pc := 1) hV 3 (this + 1) dX3_fieldOf_1 fX3_9 rfl rfl (zc_k4 kthis) (zc_pos kthis rfl) (zc_g4_3 hσ kthis) (zc_pos (zc_p4_1 kthis) rfl).1 ?_
  refine zr_iload_n (pc := 4) hV dX3_fieldOf_4 rfl rfl ?_
  refine zr_iald (pc := 5) hV dX3_fieldOf_5 (zc_k5 (zc_p4_1 kthis)) (zc_pos (zc_p4_1 kthis) rfl) rfl (by omega) ?_
  have t1 := zc_ga5 hσ (zc_p4_1 kthis) f
  refine zr_istore_n (pc := 6) hV [some (ZR this), some (ZI bits), some (ZI f), some (ZI (σ (this + 1) f)), none, none] dX3_fieldOf_6 rfl (by decide) rfl rfl ?_
  refine zr_iload_n (pc := 7) hV dX3_fieldOf_7 rfl rfl ?_
  refine zr_if_ne (pc := 8) hV 13 dX3_fieldOf_8 (by decide) (by omega) (fun c2 => ?_) (fun c2 => ?_)
  · show V 13 [some (ZR this), some (ZI bits), some (ZI f), some (ZI (σ (this + 1) f)), none, none] [] 284 σ
    refine zr_iconst (pc := 13) hV 0 dX3_fieldOf_13 rfl ?_
    refine zr_istore (pc := 14) hV [some (ZR this), some (ZI bits), some (ZI f), some (ZI (σ (this + 1) f)), some (ZI 0), none] dX3_fieldOf_14 (by decide) rfl rfl ?_
    refine zr_sipush (pc := 16) hV 2048 dX3_fieldOf_16 (by decide) ?_
    refine zr_istore (pc := 19) hV [some (ZR this), some (ZI bits), some (ZI f), some (ZI (σ (this + 1) f)), some (ZI 0), some (ZI 2048)] dX3_fieldOf_19 (by decide) rfl rfl ?_
    have L21 : ∀ (fuel : Nat) (x4_21 : Int) (x5_21 : Int) (k21 : Int), (0 ≤ x4_21 ∧ x4_21 ≤ 4095) → (0 ≤ x5_21 ∧ x5_21 ≤ 2048) → (0 ≤ k21 ∧ k21 ≤ 12) → ((k21 < 12 → x5_21 = zx_p2 (11 - k21)) ∧ (k21 = 12 → x5_21 = 0)) → (x4_21 = zu_fo (zu_cM (σ (this + 1) f)) (zu_cM bits) k21) → x5_21 < (fuel : Int) → V 21 [none, some (ZI bits), none, some (ZI (σ (this + 1) f)), some (ZI x4_21), some (ZI x5_21)] [] 284 σ := by
      intro fuel
      induction fuel with
      | zero =>
        intro x4_21 x5_21 k21 hx4_21 hx5_21 hi21_0 hi21_1 hi21_2 hm21
        exfalso; omega
      | succ fuel ih =>
        intro x4_21 x5_21 k21 hx4_21 hx5_21 hi21_0 hi21_1 hi21_2 hm21
        have ih21 := ih
        show V 21 [none, some (ZI bits), none, some (ZI (σ (this + 1) f)), some (ZI x4_21), some (ZI x5_21)] [] 284 σ
        refine zr_iload (pc := 21) hV dX3_fieldOf_21 rfl ?_
        refine zr_if_le (pc := 23) hV 61 dX3_fieldOf_23 (by decide) (by omega) (fun c3 => ?_) (fun c3 => ?_)
        · show V 61 [none, some (ZI bits), none, some (ZI (σ (this + 1) f)), some (ZI x4_21), some (ZI x5_21)] [] 284 σ
          have zpp := zx_p2_pos (11 - k21)
          refine zr_iload (pc := 61) hV dX3_fieldOf_61 rfl ?_
          exact zr_iret (pc := 63) hV dX3_fieldOf_63 rfl rfl ⟨rfl, _, rfl, (by omega), ⟨by omega, (by rw [show (12 : Int) = k21 by omega]; exact hi21_2)⟩⟩
        · show V 26 [none, some (ZI bits), none, some (ZI (σ (this + 1) f)), some (ZI x4_21), some (ZI x5_21)] [] 284 σ
          have zx5 : x5_21 = zx_p2 (11 - k21) := hi21_1.1 (by omega)
          have zp : k21 + 1 < 12 → zx_p2 (11 - k21) = 2 * zx_p2 (11 - (k21 + 1)) := fun h => by rw [show 11 - k21 = 11 - (k21 + 1) + 1 by omega]; exact zx_p2_s _ (by omega)
          have zp0 : k21 + 1 = 12 → zx_p2 (11 - k21) = 1 := fun h => by rw [show 11 - k21 = 0 by omega]; exact zx_p2_0
          have zfb := zu_fo_b (zu_cM (σ (this + 1) f)) (zu_cM bits) k21
          have zps := zx_p2_s k21 (by omega)
          have zle := zx_p2_le (m := k21 + 1) (n := 12) (by omega)
          have z12 := zx_p2_12
          refine zr_iload_n (pc := 26) hV dX3_fieldOf_26 rfl rfl ?_
          refine zr_iload (pc := 27) hV dX3_fieldOf_27 rfl ?_
          refine zr_iand (pc := 29) hV dX3_fieldOf_29 ?_
          have t4 := zq_and_nnR (x := σ (this + 1) f) (y := x5_21) (by omega)
          refine zr_if_eq (pc := 30) hV 52 dX3_fieldOf_30 (by decide) (by omega) (fun c5 => ?_) (fun c5 => ?_)
          · show V 52 [none, some (ZI bits), none, some (ZI (σ (this + 1) f)), some (ZI x4_21), some (ZI x5_21)] [] 284 σ
            refine zr_iload (pc := 52) hV dX3_fieldOf_52 rfl ?_
            refine zr_iconst (pc := 54) hV 1 dX3_fieldOf_54 rfl ?_
            refine zr_ishr (pc := 55) hV dX3_fieldOf_55 ?_
            have t6 : zq_shr x5_21 1 = x5_21 / 2 := zq_shr_c (x := x5_21) 1 2 (by decide) (by decide) (by omega)
            refine zr_istore (pc := 56) hV [none, some (ZI bits), none, some (ZI (σ (this + 1) f)), some (ZI x4_21), some (ZI (zq_shr x5_21 1))] dX3_fieldOf_56 (by decide) rfl rfl ?_
            refine zr_goto (pc := 58) hV 21 dX3_fieldOf_58 (by decide) ?_
            exact ih21 x4_21 (zq_shr x5_21 1) (k21 + 1) (by omega) (by omega) (by omega) (by refine ⟨fun h => ?_, fun h => ?_⟩ <;> omega) (by rw [zu_fo_n (by omega) (zu_cM_n (by rw [← zx5]; omega))]; exact hi21_2) (by omega)
          · show V 33 [none, some (ZI bits), none, some (ZI (σ (this + 1) f)), some (ZI x4_21), some (ZI x5_21)] [] 284 σ
            refine zr_iload (pc := 33) hV dX3_fieldOf_33 rfl ?_
            refine zr_iconst (pc := 35) hV 2 dX3_fieldOf_35 rfl ?_
            refine zr_imul (pc := 36) hV dX3_fieldOf_36 ?_
            refine zr_iload_n (pc := 37) hV dX3_fieldOf_37 rfl rfl ?_
            refine zr_iload (pc := 38) hV dX3_fieldOf_38 rfl ?_
            refine zr_iand (pc := 40) hV dX3_fieldOf_40 ?_
            have t7 := zq_and_nnR (x := bits) (y := x5_21) (by omega)
            refine zr_if_ne (pc := 41) hV 48 dX3_fieldOf_41 (by decide) (by omega) (fun c8 => ?_) (fun c8 => ?_)
            · show V 48 [none, some (ZI bits), none, some (ZI (σ (this + 1) f)), some (ZI x4_21), some (ZI x5_21)] [ZI (x4_21 * 2)] 284 σ
              refine zr_iconst (pc := 48) hV 1 dX3_fieldOf_48 rfl ?_
              show V 49 [none, some (ZI bits), none, some (ZI (σ (this + 1) f)), some (ZI x4_21), some (ZI x5_21)] [ZI 1, ZI (x4_21 * 2)] 284 σ
              refine zr_iadd (pc := 49) hV dX3_fieldOf_49 ?_
              refine zr_istore (pc := 50) hV [none, some (ZI bits), none, some (ZI (σ (this + 1) f)), some (ZI ((x4_21 * 2) + 1)), some (ZI x5_21)] dX3_fieldOf_50 (by decide) rfl rfl ?_
              show V 52 [none, some (ZI bits), none, some (ZI (σ (this + 1) f)), some (ZI ((x4_21 * 2) + 1)), some (ZI x5_21)] [] 284 σ
              refine zr_iload (pc := 52) hV dX3_fieldOf_52 rfl ?_
              refine zr_iconst (pc := 54) hV 1 dX3_fieldOf_54 rfl ?_
              refine zr_ishr (pc := 55) hV dX3_fieldOf_55 ?_
              have t9 : zq_shr x5_21 1 = x5_21 / 2 := zq_shr_c (x := x5_21) 1 2 (by decide) (by decide) (by omega)
              refine zr_istore (pc := 56) hV [none, some (ZI bits), none, some (ZI (σ (this + 1) f)), some (ZI ((x4_21 * 2) + 1)), some (ZI (zq_shr x5_21 1))] dX3_fieldOf_56 (by decide) rfl rfl ?_
              refine zr_goto (pc := 58) hV 21 dX3_fieldOf_58 (by decide) ?_
              exact ih21 ((x4_21 * 2) + 1) (zq_shr x5_21 1) (k21 + 1) (by omega) (by omega) (by omega) (by refine ⟨fun h => ?_, fun h => ?_⟩ <;> omega) (by rw [zu_fo_1 (by omega) (zu_cM_y (by rw [← zx5]; omega)) (zu_cM_y (by rw [← zx5]; omega)), ← hi21_2]; omega) (by omega)
            · show V 44 [none, some (ZI bits), none, some (ZI (σ (this + 1) f)), some (ZI x4_21), some (ZI x5_21)] [ZI (x4_21 * 2)] 284 σ
              refine zr_iconst (pc := 44) hV 0 dX3_fieldOf_44 rfl ?_
              refine zr_goto (pc := 45) hV 49 dX3_fieldOf_45 (by decide) ?_
              show V 49 [none, some (ZI bits), none, some (ZI (σ (this + 1) f)), some (ZI x4_21), some (ZI x5_21)] [ZI 0, ZI (x4_21 * 2)] 284 σ
              refine zr_iadd (pc := 49) hV dX3_fieldOf_49 ?_
              refine zr_istore (pc := 50) hV [none, some (ZI bits), none, some (ZI (σ (this + 1) f)), some (ZI ((x4_21 * 2) + 0)), some (ZI x5_21)] dX3_fieldOf_50 (by decide) rfl rfl ?_
              show V 52 [none, some (ZI bits), none, some (ZI (σ (this + 1) f)), some (ZI ((x4_21 * 2) + 0)), some (ZI x5_21)] [] 284 σ
              refine zr_iload (pc := 52) hV dX3_fieldOf_52 rfl ?_
              refine zr_iconst (pc := 54) hV 1 dX3_fieldOf_54 rfl ?_
              refine zr_ishr (pc := 55) hV dX3_fieldOf_55 ?_
              have t10 : zq_shr x5_21 1 = x5_21 / 2 := zq_shr_c (x := x5_21) 1 2 (by decide) (by decide) (by omega)
              refine zr_istore (pc := 56) hV [none, some (ZI bits), none, some (ZI (σ (this + 1) f)), some (ZI ((x4_21 * 2) + 0)), some (ZI (zq_shr x5_21 1))] dX3_fieldOf_56 (by decide) rfl rfl ?_
              refine zr_goto (pc := 58) hV 21 dX3_fieldOf_58 (by decide) ?_
              exact ih21 ((x4_21 * 2) + 0) (zq_shr x5_21 1) (k21 + 1) (by omega) (by omega) (by omega) (by refine ⟨fun h => ?_, fun h => ?_⟩ <;> omega) (by rw [zu_fo_0 (by omega) (zu_cM_y (by rw [← zx5]; omega)) (zu_cM_n (by rw [← zx5]; omega)), ← hi21_2]; omega) (by omega)
    refine zr_sub (pc := 21) hV [none, some (ZI bits), none, some (ZI (σ (this + 1) f)), some (ZI 0), some (ZI 2048)] (⟨rfl, rfl, rfl, rfl, trivial⟩) ?_
    exact L21 ((2048 : Int) + 1 : Int).toNat 0 2048 0 (by omega) (by omega) (by omega) ⟨fun _ => rfl, fun h => absurd h (by omega)⟩ (zu_fo_z _ _).symm (by omega)
  · show V 11 [some (ZR this), some (ZI bits), some (ZI f), some (ZI (σ (this + 1) f)), none, none] [] 284 σ
    refine zr_iconst (pc := 11) hV 0 dX3_fieldOf_11 rfl ?_
    exact zr_iret (pc := 12) hV dX3_fieldOf_12 rfl rfl ⟨rfl, _, rfl, ⟨by decide, by decide⟩, ⟨by omega, (by rw [zu_fo_mz (by omega)])⟩⟩
set_option maxHeartbeats 800000 in
theorem c_X9_orderOf_2 {σ : zq_S} (hσ : zc_T σ) (bits : Int) (q0 : 0 ≤ bits ∧ bits ≤ 4095) : zq_C zc_w yX9_orderOf cX9_orderOf 2 (some (.object "OrdersTold$Order")) 1 21 284 284 [ZR 3, ZI bits] σ (zq_pr σ (fun r => (0 ≤ r → zc_kd r = 4) ∧ (zq_hid ((0 ≤ r → (0 ≤ σ 11 bits ∧ σ 11 bits < σ 3 3) ∧ r = σ 10 (σ 11 bits)) ∧ (r < 0 → ¬ (0 ≤ σ 11 bits ∧ σ 11 bits < σ 3 3)))))) := by
  refine zq_C_of (by decide) (Nat.le_refl _) (Nat.le_of_ble_eq_true rfl) [some (ZR 3), some (ZI bits)] rfl (fun V hV => ?_)
  show V 0 [some (ZR 3), some (ZI bits)] [] 284 σ
  refine zr_aload_n (pc := 0) hV dX9_orderOf_0 rfl rfl ?_
  refine zr_aload_n (pc := 1) hV dX9_orderOf_1 rfl rfl ?_
  refine zr_iload_n (pc := 2) hV dX9_orderOf_2 rfl rfl ?_
  refine zr_callVp (pc := 3) hV [ZI bits] (st := [ZR 3]) (c_X9_numberOf_2 (σ := σ) hσ bits (by omega)) dX9_orderOf_3 mX9_52 (zc_k3 zc_s3) (zc_pos zc_s3 rfl) (by decide) (Nat.le_of_ble_eq_true rfl) (Nat.le_refl _) (fun r3 hr3 pr3 => ?_)
  have zn : r3 = σ 11 bits := pr3.2.1 ⟨by omega, by omega⟩
  refine zr_callVr (pc := 6) hV [ZI r3] (st := []) (c_X9_numbered_2 (σ := σ) hσ r3 (by omega)) dX9_orderOf_6 mX9_56 (zc_k3 zc_s3) (zc_pos zc_s3 rfl) (by decide) (Nat.le_of_ble_eq_true rfl) (Nat.le_refl _) (fun r6 pr6 => ?_)
  rw [zn] at pr6
  exact zr_aretQ (pc := 9) hV dX9_orderOf_9 rfl rfl ⟨rfl, _, rfl, pr6.1, ⟨fun h => ⟨⟨(pr6.2.1 h).1, (pr6.2.1 h).2.1⟩, (pr6.2.1 h).2.2⟩, pr6.2.2⟩⟩
set_option maxHeartbeats 800000 in
theorem c_X11_field_2 {σ : zq_S} (hσ : zc_T σ) (bits : Int) (f : Int) (q0 : zq_in bits) (q1 : zq_in f) (Uσ : zc_U σ) : zq_C zc_w yX11_field cX11_field 4 (some .int) 2 42 284 284 [ZR 0, ZI bits, ZI f] σ (zq_pp σ (fun r => zq_hid ((¬ (0 ≤ bits ∧ bits < zx_p2 (σ 3 2) ∧ 0 ≤ f ∧ f ≤ 3) → r = -1) ∧ ((0 ≤ bits ∧ bits < zx_p2 (σ 3 2) ∧ 0 ≤ f ∧ f ≤ 3) → (¬ (0 ≤ σ 11 bits ∧ σ 11 bits < σ 3 3) → r = -4) ∧ ((0 ≤ σ 11 bits ∧ σ 11 bits < σ 3 3) → (σ (σ 10 (σ 11 bits) + 1) f = 0 → r = -4) ∧ (σ (σ 10 (σ 11 bits) + 1) f ≠ 0 → r = zu_fo (zu_cM (σ (σ 10 (σ 11 bits) + 1) f)) (zu_cM bits) 12)))))) := by
  refine zq_C_of (by decide) (Nat.le_refl _) (Nat.le_of_ble_eq_true rfl) [some (ZR 0), some (ZI bits), some (ZI f), none] rfl (fun V hV => ?_)
  show V 0 [some (ZR 0), some (ZI bits), some (ZI f), none] [] 284 σ
  refine zr_aload_n (pc := 0) hV dX11_field_0 rfl rfl ?_
  refine zr_getR (pc := 1) hV 1 3 dX11_field_1 fX11_19 rfl rfl (zc_k0 zc_s0) (zc_pos zc_s0 rfl) (zc_g0_1 hσ zc_s0) (by decide) ?_
  refine zr_iload_n (pc := 4) hV dX11_field_4 rfl rfl ?_
  refine zr_callVp (pc := 5) hV [ZI bits] (st := []) (c_X9_isBits_2 (σ := σ) hσ bits (by omega)) dX11_field_5 mX11_127 (zc_k3 zc_s3) (zc_pos zc_s3 rfl) (by decide) (Nat.le_of_ble_eq_true rfl) (Nat.le_refl _) (fun r5 hr5 pr5 => ?_)
  have t1 := zc_g3_2 hσ zc_s3
  refine zr_if_eq (pc := 8) hV 20 dX11_field_8 (by decide) (by omega) (fun c2 => ?_) (fun c2 => ?_)
  · show V 20 [some (ZR 0), some (ZI bits), some (ZI f), none] [] 284 σ
    refine zr_iconst (pc := 20) hV (-1) dX11_field_20 rfl ?_
    exact zr_iret (pc := 21) hV dX11_field_21 rfl rfl ⟨rfl, _, rfl, ⟨by decide, by decide⟩, ⟨fun _ => rfl, fun h => absurd h (by omega)⟩⟩
  · show V 11 [some (ZR 0), some (ZI bits), some (ZI f), none] [] 284 σ
    refine zr_iload_n (pc := 11) hV dX11_field_11 rfl rfl ?_
    refine zr_iconst (pc := 12) hV 0 dX11_field_12 rfl ?_
    refine zr_iconst (pc := 13) hV 3 dX11_field_13 rfl ?_
    refine zr_callSp (pc := 14) hV [ZI f, ZI 0, ZI 3] (st := []) (c_X11_within (σ := σ) f 0 3 (by omega) (by omega) (by omega)) dX11_field_14 mX11_89 (by decide) (Nat.le_of_ble_eq_true rfl) (Nat.le_refl _) (fun r14 hr14 pr14 => ?_)
    refine zr_if_ne (pc := 17) hV 22 dX11_field_17 (by decide) (by omega) (fun c3 => ?_) (fun c3 => ?_)
    · show V 22 [some (ZR 0), some (ZI bits), some (ZI f), none] [] 284 σ
      refine zr_aload_n (pc := 22) hV dX11_field_22 rfl rfl ?_
      refine zr_getR (pc := 23) hV 1 3 dX11_field_23 fX11_19 rfl rfl (zc_k0 zc_s0) (zc_pos zc_s0 rfl) (zc_g0_1 hσ zc_s0) (by decide) ?_
      refine zr_iload_n (pc := 26) hV dX11_field_26 rfl rfl ?_
      refine zr_callVr (pc := 27) hV [ZI bits] (st := []) (c_X9_orderOf_2 (σ := σ) hσ bits (by omega)) dX11_field_27 mX11_134 (zc_k3 zc_s3) (zc_pos zc_s3 rfl) (by decide) (Nat.le_of_ble_eq_true rfl) (Nat.le_refl _) (fun r27 pr27 => ?_)
      refine zr_astore_nQ (pc := 30) hV [some (ZR 0), some (ZI bits), some (ZI f), some (zq_nr r27)] dX11_field_30 rfl (by decide) rfl rfl ?_
      refine zr_aload_nQ (pc := 31) hV dX11_field_31 rfl rfl ?_
      by_cases c4 : r27 < 0
      · rw [zq_nr_n c4]
        refine zr_ifnullN (pc := 32) hV 43 dX11_field_32 (by decide) ?_
        show V 43 [some (ZR 0), some (ZI bits), some (ZI f), some (ZN)] [] 284 σ
        refine zr_bipush (pc := 43) hV (-4) dX11_field_43 (by decide) ?_
        refine zr_goto (pc := 45) hV 54 dX11_field_45 (by decide) ?_
        show V 54 [some (ZR 0), some (ZI bits), some (ZI f), some (ZN)] [ZI (-4)] 284 σ
        exact zr_iret (pc := 54) hV dX11_field_54 rfl rfl ⟨rfl, _, rfl, ⟨by decide, by decide⟩, ⟨fun h => absurd (by omega) h, fun _ => by first | exact ⟨fun _ => rfl, fun o => absurd o (pr27.2.2 (by omega))⟩ | exact ⟨fun _ => rfl, fun o => ⟨fun _ => rfl, fun h => absurd ((by rw [(pr27.2.1 (by omega)).2] at pr37; exact pr37.2.mpr h : r37 = 1)) (by omega)⟩⟩⟩⟩
      · rw [zq_nr_p c4]
        have kr27 : zc_kd r27 = 4 := pr27.1 (by omega)
        have por27 := zc_pos kr27 rfl
        refine zr_ifnull (pc := 32) hV dX11_field_32 ?_
        show V 35 [some (ZR 0), some (ZI bits), some (ZI f), some (ZR r27)] [] 284 σ
        refine zr_aload_n (pc := 35) hV dX11_field_35 rfl rfl ?_
        refine zr_iload_n (pc := 36) hV dX11_field_36 rfl rfl ?_
        refine zr_callVp (pc := 37) hV [ZI f] (st := []) (c_X3_hasField_2 (σ := σ) hσ r27 kr27 f (by omega)) dX11_field_37 mX11_137 (zc_k4 kr27) (zc_pos kr27 rfl) (by decide) (Nat.le_of_ble_eq_true rfl) (Nat.le_refl _) (fun r37 hr37 pr37 => ?_)
        refine zr_if_ne (pc := 40) hV 48 dX11_field_40 (by decide) (by omega) (fun c5 => ?_) (fun c5 => ?_)
        · show V 48 [some (ZR 0), some (ZI bits), some (ZI f), some (ZR r27)] [] 284 σ
          refine zr_aload_n (pc := 48) hV dX11_field_48 rfl rfl ?_
          refine zr_iload_n (pc := 49) hV dX11_field_49 rfl rfl ?_
          refine zr_iload_n (pc := 50) hV dX11_field_50 rfl rfl ?_
          refine zr_callVp (pc := 51) hV [ZI bits, ZI f] (st := []) (c_X3_fieldOf_2 (σ := σ) hσ r27 kr27 bits f (by omega) (by omega)) dX11_field_51 mX11_140 (zc_k4 kr27) (zc_pos kr27 rfl) (by decide) (Nat.le_of_ble_eq_true rfl) (Nat.le_refl _) (fun r51 hr51 pr51 => ?_)
          show V 54 [some (ZR 0), some (ZI bits), some (ZI f), some (ZR r27)] [ZI r51] 284 σ
          exact zr_iret (pc := 54) hV dX11_field_54 rfl rfl ⟨rfl, _, rfl, (by omega), ⟨fun h => absurd (by omega) h, fun _ => ⟨fun o => absurd (pr27.2.1 (by omega)).1 o, fun _ => ⟨fun h => absurd h (by rw [← (pr27.2.1 (by omega)).2]; exact pr37.2.mp (by omega)), fun _ => by rw [← (pr27.2.1 (by omega)).2]; exact pr51.2⟩⟩⟩⟩
        · show V 43 [some (ZR 0), some (ZI bits), some (ZI f), some (ZR r27)] [] 284 σ
          refine zr_bipush (pc := 43) hV (-4) dX11_field_43 (by decide) ?_
          refine zr_goto (pc := 45) hV 54 dX11_field_45 (by decide) ?_
          show V 54 [some (ZR 0), some (ZI bits), some (ZI f), some (ZR r27)] [ZI (-4)] 284 σ
          exact zr_iret (pc := 54) hV dX11_field_54 rfl rfl ⟨rfl, _, rfl, ⟨by decide, by decide⟩, ⟨fun h => absurd (by omega) h, fun _ => by first | exact ⟨fun _ => rfl, fun o => absurd o (pr27.2.2 (by omega))⟩ | exact ⟨fun _ => rfl, fun o => ⟨fun _ => rfl, fun h => absurd ((by rw [(pr27.2.1 (by omega)).2] at pr37; exact pr37.2.mpr h : r37 = 1)) (by omega)⟩⟩⟩⟩
    · show V 20 [some (ZR 0), some (ZI bits), some (ZI f), none] [] 284 σ
      refine zr_iconst (pc := 20) hV (-1) dX11_field_20 rfl ?_
      exact zr_iret (pc := 21) hV dX11_field_21 rfl rfl ⟨rfl, _, rfl, ⟨by decide, by decide⟩, ⟨fun _ => rfl, fun h => absurd h (by omega)⟩⟩

